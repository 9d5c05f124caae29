section
-- ===== PART A: goes FIRST, ahead of the names: the tables' words, and 'selects' of the private methods out of them =====
/-- a private method of a class that the tables say can be made, by its rows of tables_1 -/
def lw_okq (q : MethodName × Nat) : Prop := (q.1.cls ≠ "java/lang/invoke/MethodHandle" ∧ q.1.cls ≠ "java/lang/invoke/VarHandle") ∧ Cond.instantiable q.1.cls q.2 ∈ tables_1 ∧ Cond.privateMethod q.1 ∈ tables_1 ∧ Cond.instanceMethod q.1 ∈ tables_1
theorem lw_p0 : lw_okq (⟨"java/lang/Throwable", "fillInStackTrace", "(I)Ljava/lang/Throwable;"⟩, 6) := ⟨⟨by decide +kernel, by decide +kernel⟩, List.mem_of_getElem? (i := 106) (by decide +kernel), List.mem_of_getElem? (i := 104) (by decide +kernel), List.mem_of_getElem? (i := 105) (by decide +kernel)⟩
theorem lw_p1 : lw_okq (⟨"Restitutory", "personNumbered", "(I)LRestitutory$Person;"⟩, 8) := ⟨⟨by decide +kernel, by decide +kernel⟩, List.mem_of_getElem? (i := 16) (by decide +kernel), List.mem_of_getElem? (i := 187) (by decide +kernel), List.mem_of_getElem? (i := 188) (by decide +kernel)⟩
theorem lw_p2 : lw_okq (⟨"Restitutory", "thingNumbered", "(I)LRestitutory$Thing;"⟩, 8) := ⟨⟨by decide +kernel, by decide +kernel⟩, List.mem_of_getElem? (i := 16) (by decide +kernel), List.mem_of_getElem? (i := 316) (by decide +kernel), List.mem_of_getElem? (i := 317) (by decide +kernel)⟩
theorem lw_p3 : lw_okq (⟨"Restitutory", "stationNumbered", "(II)LRestitutory$Station;"⟩, 8) := ⟨⟨by decide +kernel, by decide +kernel⟩, List.mem_of_getElem? (i := 16) (by decide +kernel), List.mem_of_getElem? (i := 383) (by decide +kernel), List.mem_of_getElem? (i := 384) (by decide +kernel)⟩
theorem lw_p4 : lw_okq (⟨"Restitutory", "isDarkFor", "(LRestitutory$Person;II)Z"⟩, 8) := ⟨⟨by decide +kernel, by decide +kernel⟩, List.mem_of_getElem? (i := 16) (by decide +kernel), List.mem_of_getElem? (i := 403) (by decide +kernel), List.mem_of_getElem? (i := 404) (by decide +kernel)⟩
theorem lw_p5 : lw_okq (⟨"Restitutory", "takesAway", "(LRestitutory$Station;)Z"⟩, 8) := ⟨⟨by decide +kernel, by decide +kernel⟩, List.mem_of_getElem? (i := 16) (by decide +kernel), List.mem_of_getElem? (i := 469) (by decide +kernel), List.mem_of_getElem? (i := 470) (by decide +kernel)⟩
theorem lw_p6 : lw_okq (⟨"Restitutory", "titleFromFirst", "(LRestitutory$Thing;)LRestitutory$Person;"⟩, 8) := ⟨⟨by decide +kernel, by decide +kernel⟩, List.mem_of_getElem? (i := 16) (by decide +kernel), List.mem_of_getElem? (i := 491) (by decide +kernel), List.mem_of_getElem? (i := 492) (by decide +kernel)⟩
theorem lw_p7 : lw_okq (⟨"Restitutory", "bringsTitle", "(LRestitutory$Station;LRestitutory$Person;)Z"⟩, 8) := ⟨⟨by decide +kernel, by decide +kernel⟩, List.mem_of_getElem? (i := 16) (by decide +kernel), List.mem_of_getElem? (i := 495) (by decide +kernel), List.mem_of_getElem? (i := 496) (by decide +kernel)⟩
theorem lw_p8 : lw_okq (⟨"Restitutory", "isKeptInGoodFaith", "(LRestitutory$Station;)Z"⟩, 8) := ⟨⟨by decide +kernel, by decide +kernel⟩, List.mem_of_getElem? (i := 16) (by decide +kernel), List.mem_of_getElem? (i := 499) (by decide +kernel), List.mem_of_getElem? (i := 500) (by decide +kernel)⟩
theorem lw_p9 : lw_okq (⟨"Restitutory", "titleFromLast", "(LRestitutory$Thing;)LRestitutory$Person;"⟩, 8) := ⟨⟨by decide +kernel, by decide +kernel⟩, List.mem_of_getElem? (i := 16) (by decide +kernel), List.mem_of_getElem? (i := 510) (by decide +kernel), List.mem_of_getElem? (i := 511) (by decide +kernel)⟩
theorem lw_p10 : lw_okq (⟨"RestitutoryModel", "goes", "(ZZZ)Z"⟩, 21) := ⟨⟨by decide +kernel, by decide +kernel⟩, List.mem_of_getElem? (i := 521) (by decide +kernel), List.mem_of_getElem? (i := 603) (by decide +kernel), List.mem_of_getElem? (i := 604) (by decide +kernel)⟩
theorem lw_p11 : lw_okq (⟨"RestitutoryModel", "isPerson", "(I)Z"⟩, 21) := ⟨⟨by decide +kernel, by decide +kernel⟩, List.mem_of_getElem? (i := 521) (by decide +kernel), List.mem_of_getElem? (i := 611) (by decide +kernel), List.mem_of_getElem? (i := 612) (by decide +kernel)⟩
theorem lw_p12 : lw_okq (⟨"RestitutoryModel", "isHeir", "(II)Z"⟩, 21) := ⟨⟨by decide +kernel, by decide +kernel⟩, List.mem_of_getElem? (i := 521) (by decide +kernel), List.mem_of_getElem? (i := 619) (by decide +kernel), List.mem_of_getElem? (i := 620) (by decide +kernel)⟩
theorem lw_p13 : lw_okq (⟨"RestitutoryModel", "isThing", "(I)Z"⟩, 21) := ⟨⟨by decide +kernel, by decide +kernel⟩, List.mem_of_getElem? (i := 521) (by decide +kernel), List.mem_of_getElem? (i := 647) (by decide +kernel), List.mem_of_getElem? (i := 648) (by decide +kernel)⟩
theorem lw_p14 : lw_okq (⟨"RestitutoryModel", "isStation", "(II)Z"⟩, 21) := ⟨⟨by decide +kernel, by decide +kernel⟩, List.mem_of_getElem? (i := 521) (by decide +kernel), List.mem_of_getElem? (i := 659) (by decide +kernel), List.mem_of_getElem? (i := 660) (by decide +kernel)⟩
theorem lw_p15 : lw_okq (⟨"RestitutoryModel", "persecutes", "(III)Z"⟩, 21) := ⟨⟨by decide +kernel, by decide +kernel⟩, List.mem_of_getElem? (i := 521) (by decide +kernel), List.mem_of_getElem? (i := 671) (by decide +kernel), List.mem_of_getElem? (i := 672) (by decide +kernel)⟩
def lw_privs_1 : List (MethodName × Nat) := [(⟨"java/lang/Throwable", "fillInStackTrace", "(I)Ljava/lang/Throwable;"⟩, 6), (⟨"Restitutory", "personNumbered", "(I)LRestitutory$Person;"⟩, 8), (⟨"Restitutory", "thingNumbered", "(I)LRestitutory$Thing;"⟩, 8), (⟨"Restitutory", "stationNumbered", "(II)LRestitutory$Station;"⟩, 8), (⟨"Restitutory", "isDarkFor", "(LRestitutory$Person;II)Z"⟩, 8), (⟨"Restitutory", "takesAway", "(LRestitutory$Station;)Z"⟩, 8), (⟨"Restitutory", "titleFromFirst", "(LRestitutory$Thing;)LRestitutory$Person;"⟩, 8), (⟨"Restitutory", "bringsTitle", "(LRestitutory$Station;LRestitutory$Person;)Z"⟩, 8), (⟨"Restitutory", "isKeptInGoodFaith", "(LRestitutory$Station;)Z"⟩, 8), (⟨"Restitutory", "titleFromLast", "(LRestitutory$Thing;)LRestitutory$Person;"⟩, 8), (⟨"RestitutoryModel", "goes", "(ZZZ)Z"⟩, 21), (⟨"RestitutoryModel", "isPerson", "(I)Z"⟩, 21), (⟨"RestitutoryModel", "isHeir", "(II)Z"⟩, 21), (⟨"RestitutoryModel", "isThing", "(I)Z"⟩, 21), (⟨"RestitutoryModel", "isStation", "(II)Z"⟩, 21), (⟨"RestitutoryModel", "persecutes", "(III)Z"⟩, 21)]
theorem lw_r1 : ∀ q ∈ lw_privs_1, lw_okq q := List.forall_mem_cons.mpr ⟨lw_p0, List.forall_mem_cons.mpr ⟨lw_p1, List.forall_mem_cons.mpr ⟨lw_p2, List.forall_mem_cons.mpr ⟨lw_p3, List.forall_mem_cons.mpr ⟨lw_p4, List.forall_mem_cons.mpr ⟨lw_p5, List.forall_mem_cons.mpr ⟨lw_p6, List.forall_mem_cons.mpr ⟨lw_p7, List.forall_mem_cons.mpr ⟨lw_p8, List.forall_mem_cons.mpr ⟨lw_p9, List.forall_mem_cons.mpr ⟨lw_p10, List.forall_mem_cons.mpr ⟨lw_p11, List.forall_mem_cons.mpr ⟨lw_p12, List.forall_mem_cons.mpr ⟨lw_p13, List.forall_mem_cons.mpr ⟨lw_p14, List.forall_mem_cons.mpr ⟨lw_p15, fun _ h => absurd h List.not_mem_nil⟩⟩⟩⟩⟩⟩⟩⟩⟩⟩⟩⟩⟩⟩⟩⟩
theorem lw_p16 : lw_okq (⟨"RestitutoryModel", "findsHeir", "(I)I"⟩, 21) := ⟨⟨by decide +kernel, by decide +kernel⟩, List.mem_of_getElem? (i := 521) (by decide +kernel), List.mem_of_getElem? (i := 679) (by decide +kernel), List.mem_of_getElem? (i := 680) (by decide +kernel)⟩
theorem lw_p17 : lw_okq (⟨"RestitutoryModel", "nearOf", "(I)I"⟩, 21) := ⟨⟨by decide +kernel, by decide +kernel⟩, List.mem_of_getElem? (i := 521) (by decide +kernel), List.mem_of_getElem? (i := 683) (by decide +kernel), List.mem_of_getElem? (i := 684) (by decide +kernel)⟩
theorem lw_p18 : lw_okq (⟨"RestitutoryModel", "livingOf", "(I)I"⟩, 21) := ⟨⟨by decide +kernel, by decide +kernel⟩, List.mem_of_getElem? (i := 521) (by decide +kernel), List.mem_of_getElem? (i := 687) (by decide +kernel), List.mem_of_getElem? (i := 688) (by decide +kernel)⟩
theorem lw_p19 : lw_okq (⟨"RestitutoryModel", "likes", "(II)I"⟩, 21) := ⟨⟨by decide +kernel, by decide +kernel⟩, List.mem_of_getElem? (i := 521) (by decide +kernel), List.mem_of_getElem? (i := 695) (by decide +kernel), List.mem_of_getElem? (i := 696) (by decide +kernel)⟩
theorem lw_p20 : lw_okq (⟨"RestitutoryModel", "lays", "(I)I"⟩, 21) := ⟨⟨by decide +kernel, by decide +kernel⟩, List.mem_of_getElem? (i := 521) (by decide +kernel), List.mem_of_getElem? (i := 710) (by decide +kernel), List.mem_of_getElem? (i := 711) (by decide +kernel)⟩
theorem lw_p21 : lw_okq (⟨"RestitutoryModel", "loses", "(II)Z"⟩, 21) := ⟨⟨by decide +kernel, by decide +kernel⟩, List.mem_of_getElem? (i := 521) (by decide +kernel), List.mem_of_getElem? (i := 718) (by decide +kernel), List.mem_of_getElem? (i := 719) (by decide +kernel)⟩
theorem lw_p22 : lw_okq (⟨"RestitutoryModel", "holderOf", "(I)I"⟩, 21) := ⟨⟨by decide +kernel, by decide +kernel⟩, List.mem_of_getElem? (i := 521) (by decide +kernel), List.mem_of_getElem? (i := 726) (by decide +kernel), List.mem_of_getElem? (i := 727) (by decide +kernel)⟩
theorem lw_p23 : lw_okq (⟨"RestitutoryModel", "ownerOf", "(I)I"⟩, 21) := ⟨⟨by decide +kernel, by decide +kernel⟩, List.mem_of_getElem? (i := 521) (by decide +kernel), List.mem_of_getElem? (i := 734) (by decide +kernel), List.mem_of_getElem? (i := 735) (by decide +kernel)⟩
def lw_privs_2 : List (MethodName × Nat) := [(⟨"RestitutoryModel", "findsHeir", "(I)I"⟩, 21), (⟨"RestitutoryModel", "nearOf", "(I)I"⟩, 21), (⟨"RestitutoryModel", "livingOf", "(I)I"⟩, 21), (⟨"RestitutoryModel", "likes", "(II)I"⟩, 21), (⟨"RestitutoryModel", "lays", "(I)I"⟩, 21), (⟨"RestitutoryModel", "loses", "(II)Z"⟩, 21), (⟨"RestitutoryModel", "holderOf", "(I)I"⟩, 21), (⟨"RestitutoryModel", "ownerOf", "(I)I"⟩, 21)]
theorem lw_r2 : ∀ q ∈ lw_privs_2, lw_okq q := List.forall_mem_cons.mpr ⟨lw_p16, List.forall_mem_cons.mpr ⟨lw_p17, List.forall_mem_cons.mpr ⟨lw_p18, List.forall_mem_cons.mpr ⟨lw_p19, List.forall_mem_cons.mpr ⟨lw_p20, List.forall_mem_cons.mpr ⟨lw_p21, List.forall_mem_cons.mpr ⟨lw_p22, List.forall_mem_cons.mpr ⟨lw_p23, fun _ h => absurd h List.not_mem_nil⟩⟩⟩⟩⟩⟩⟩⟩
def lw_privs : List (MethodName × Nat) := lw_privs_1 ++ (lw_privs_2)
def lw_tbl : List Cond := k2_sels lw_privs ++ tables_1
theorem lw_privs_ok : ∀ q ∈ lw_privs, lw_okq q := by
  show ∀ q ∈ lw_privs_1 ++ (lw_privs_2), lw_okq q
  exact List.forall_mem_append.mpr ⟨lw_r1, lw_r2⟩
end
section
/-! ===== BEGIN words of one list among another's, by their places ===== -/
theorem goodIn_r {big : List Cond} (ws : List Cond) (ps : List Nat) (hp : ws = ps.filterMap (fun i => big[i]?)) (h : ws.all goodWord = true) : GoodIn big ws := by
  intro w hw
  have h1 := List.all_eq_true.mp h w hw
  rw [hp] at hw
  obtain ⟨i, -, hi⟩ := List.mem_filterMap.mp hw
  have hm : w ∈ big := by first | exact List.mem_of_getElem? hi | exact List.getElem?_mem hi
  exact ⟨hm, good_of_word h1⟩
theorem goodIn_app {big a b : List Cond} (ha : GoodIn big a) (hb : GoodIn big b) : GoodIn big (a ++ b) := fun w h => (List.mem_append.mp h).elim (ha w) (hb w)
theorem goodIn_ca {big a b : List Cond} {c : Cond} (ha : GoodIn big (c :: a)) (hb : GoodIn big b) : GoodIn big (c :: (a ++ b)) := fun w h => (List.mem_cons.mp h).elim (fun e => ha w (List.mem_cons.mpr (Or.inl e))) (fun h => (List.mem_append.mp h).elim (fun h => ha w (List.mem_cons.mpr (Or.inr h))) (hb w))
theorem goodIn_sub {big ws : List Cond} (hm : ∀ w ∈ ws, w ∈ big) (h : ws.all goodWord = true) : GoodIn big ws := fun w hw => ⟨hm w hw, good_of_word (List.all_eq_true.mp h w hw)⟩
/-! ===== END ===== -/

/-! ===== BEGIN exceptions that leave a method, and their catching by the caller (launches without stack traces) ===== -/
section VXA
/-! The laws vx_back, vx_callV, vx_callS, vx_callSW, vx_throw0, vx_throwS follow proofs of the library, with one case more: JvmDerived/Free/Laws.lean (Back.of_free), Shelf42/LK1.lean (callV, callS), Shelf/KitTraced.lean (throwNew0V, throwNewS). -/
/-- where a method has thrown q: the class by its name, the cell, what was written, the world -/
def vx_T (XC : String → State → State → Prop) (st : State) (q : Addr) (t : State) (mc ms : Nat) (free : Addr → Prop) : Prop :=
  ∃ (E : String) (ce : Cell) (L : List Loc), XC E st t ∧ t.heap[q]? = some ce ∧ ce.vm = .none ∧ st.vm.findClass E = some ce.cls ∧ st.WarmedH t.vm ∧ st.sameButNew ({ t with vm := st.vm } : State) L mc ms ∧ ∀ z ∈ L, free z.base
def vx_Q (Qc : Array Value → State → Outcome → State → Prop) (XC : String → State → State → Prop) (mc ms : Nat) (free : Addr → Prop) : Array Value → State → Outcome → State → Prop := fun a st o t =>
  (Qc a st o t ∧ ∃ L, FrameEnd st o t L mc ms ∧ ∀ q ∈ L, free q.base) ∨ ∃ q, o = .threw q ∧ vx_T XC st q t mc ms free
/-- a callee that returns or throws -/
def vx_Met (l : Launch) (y : MethodName) (ws : List Cond) (rm : Room) (Pc : Array Value → State → Prop) (Qc : Array Value → State → Outcome → State → Prop) (XC : String → State → State → Prop) (mc ms : Nat) (free : Addr → Prop) : Prop :=
  MetFree l y (headSpec ws rm) Pc (fun _ _ _ _ _ => True) (vx_Q Qc XC mc ms free)
def vx_Post (XC : String → State → State → Prop) (mc ms : Nat) (free : Addr → Prop) : Pt → Array Value → Addr → Pt → Prop := fun A a q B =>
  ∃ (g : JFrame) (mk : MethodId) (t : State) (L : List Loc) (E : String) (ce : Cell), B.U.heap = t.heap ∧ B.U.vm = t.vm ∧ XC E (A.U.calling g mk a) t ∧ t.heap[q]? = some ce ∧ ce.vm = .none ∧ A.U.vm.findClass E = some ce.cls ∧ B.locs = A.locs ++ L ∧ (∀ z ∈ L, free z.base) ∧ B.cells = A.cells + mc ∧ B.slots = A.slots + ms
def vx_Back (l : Launch) (R : Room) (p : Program) (e : Env) (below : List Frame) (s : State) (sargs : Array Value) (y : MethodName) (len W9 : Nat)
    (Pre : Pt → Array Value → Prop) (Post : Pt → Array Value → Option Value → Pt → Prop) (PostX : Pt → Array Value → Addr → Pt → Prop) : Prop :=
  ∀ (m : MethodId) (meth : Method) (c : Code) (A : Pt) (g : JFrame) (ig : Instr) (mk : MethodId) (a : Array Value),
    Stand p l e R s m sargs below meth c A.U A.locs A.cells A.slots → g.method = m → g.locals.size = c.maxLocals → decode c.code g.pc = .ok (ig, len) →
    2 * g.monitorRoom + (g.stack.map fun v => v.category).sum ≤ W9 → A.U.methodNamed? y = some mk → Pre A a →
    (∃ (v : Option Value) (B : Pt), Stand p l e R s m sargs below meth c B.U B.locs B.cells B.slots ∧ Post A a v B ∧
      Steps p.tables e below (doInvoke e (A.U.setTop g) [] mk a).1 (B.U.setTop { g with pc := g.pc + len, stack := v.toList ++ g.stack })) ∨
    (∃ (q : Addr) (B : Pt), Stand p l e R s m sargs below meth c B.U B.locs B.cells B.slots ∧ PostX A a q B ∧
      Steps p.tables e below (doInvoke e (A.U.setTop g) [] mk a).1 ((B.U.setTop g).pushFrame (.throwing q)))
section Payer
variable {l : Launch} {R : Room} {p : Program} {e : Env} {below : List Frame} {s : State} {sargs : Array Value} {y : MethodName} {len W9 : Nat}
theorem vx_back {ws : List Cond} {rm : Room} {Pc : Array Value → State → Prop} {Qc : Array Value → State → Outcome → State → Prop} {XC : String → State → State → Prop} {mc ms : Nat} {free : Addr → Prop} {bytes : ByteArray} {maxL : Nat} {ret : Option FieldType}
    (hM : vx_Met l y ws rm Pc Qc XC mc ms free) (hblind : FrameBlind Pc) (hrc : rm.cells = mc) (hrs : rm.slots = ms)
    (hframes : rm.frames + 1 ≤ R.frames) (hlocals : W9 + (maxL + 11) + rm.locals ≤ R.locals)
    (hws : ∀ w ∈ ws, ∀ a' U, s.WarmedH U.vm → w.before a' U = true) (hcode : Cond.code y bytes maxL ret ∈ ws) (hinit : ∀ a' U, s.WarmedH U.vm → (Cond.initialized y.cls).before a' U = true) :
    vx_Back l R p e below s sargs y len W9 (PreOf R mc ms Pc) (PostOf Qc mc ms free) (vx_Post XC mc ms free) := by
  intro m meth c A g ig mk a X hg hsize hdg hW hn hp
  have h1 : (headSpec ws rm).pre.before a A.U = true := atoms_intro fun w hw => hws w hw _ _ X.warmed
  have h2 : (Cond.code y bytes maxL ret).before a A.U = true := hws _ hcode _ _ X.warmed
  have h3 : (Cond.initialized y.cls).before a A.U = true := hinit _ _ X.warmed
  have h4 : A.cells + (headSpec ws rm).room.cells ≤ R.cells := by rw [show (headSpec ws rm).room.cells = mc from hrc]; exact hp.1
  have h5 : A.slots + (headSpec ws rm).room.slots ≤ R.slots := by rw [show (headSpec ws rm).room.slots = ms from hrs]; exact hp.2.1
  have hPc : Pc a (A.U.calling g mk a) := hblind _ _ _ _ hp.2.2
  obtain ⟨U, Ls, c0, s0⟩ := A
  dsimp only [Pt.U, Pt.locs, Pt.cells, Pt.slots] at h1 h2 h3 h4 h5 X hn hPc ⊢
  obtain ⟨methY, cY, hmY, hcY, -, hlY, -, -, -, -⟩ := Cond.code_spec hn h2
  obtain ⟨kY, hkY, -⟩ := className_of_methodNamed hn
  have hinitY : kY.init = .initialized := Cond.initialized_spec (findClass_of_methodNamed hn) hkY h3
  have h : At U g.method c below := by rw [hg]; exact X.here
  have hlocals9 : W9 + (maxL + 11) + (headSpec ws rm).room.locals ≤ R.locals := hlocals
  have happ : (headSpec ws rm).appliesLoose y e.platform (U.calling g mk a) = true :=
    Spec.appliesLoose_calling (g := g) h hdg hn hkY hinitY
      (X.room_calling (g := g) (R' := (headSpec ws rm).room) hsize hmY hcY hframes (by rw [hlY]; omega) h4 h5) h1
  obtain ⟨mid, hmid⟩ := h.above
  have hfr : (U.setTop g).frames = (.java g :: mid) ++ below := by rw [State.frames_setTop' g h.top, hmid]; rfl
  obtain ⟨o, s₂, hsteps, -, hend, hq⟩ := Steps.callFree hM p X.admits X.cas X.clock (acts := []) hfr happ hPc trivial
  have hq' : vx_Q Qc XC mc ms free a (U.calling g mk a) o s₂ := hq
  rw [State.frames_setTop' g h.top] at hend
  obtain ⟨g₀, hg0⟩ := Option.isSome_iff_exists.mp h.top
  obtain ⟨r, hr⟩ := State.topJava?_eq_some.mp hg0
  have hr' : (({ U with heap := s₂.heap, slotsUsed := s₂.slotsUsed } : State).setVm s₂.vm).frames = .java g₀ :: r := hr
  rcases hq' with ⟨hqc, L, hfe, hL⟩ | ⟨q, rfl, E, ce, L, hx, hce, hcv, hcl, hW₂, hsm, hL⟩
  · obtain ⟨⟨v, rfl⟩, hW₂, e2, q2, q3, q4, q5, q6⟩ := id hfe
    have e3 : s₂ = ({ (U.calling g mk a).setFrames s₂.frames with heap := s₂.heap, slotsUsed := s₂.slotsUsed } : State).setVm s₂.vm := by
      have : s₂ = ({ s₂ with vm := (U.calling g mk a).vm } : State).setVm s₂.vm := rfl
      rw [e2] at this
      exact this
    obtain ⟨c₂, i₂, len₂, hc₂, hd₂, hf₂⟩ := hend
    have hW' : U.WarmedH s₂.vm := hW₂
    have hcc : c₂ = c := by
      have h1 : s₂.code? g.method = U.code? g.method := by
        rw [State.code?_eq, State.code?_eq, hW'.alike.method?]
      exact Option.some.inj (hc₂.symm.trans (h1.trans h.code))
    subst hcc
    have hlen : len₂ = len := by rw [hdg] at hd₂; cases hd₂; rfl
    subst hlen
    have hs₂ : s₂ = (({ U with heap := s₂.heap, slotsUsed := s₂.slotsUsed } : State).setVm s₂.vm).setTop { g with pc := g.pc + len₂, stack := v.toList ++ g.stack } := by
      refine e3.trans ?_
      rw [hf₂, State.calling_eq h.top, State.setFrames_setFrames, State.setTop_of_frames _ hr', hr]
      rfl
    have hsame : U.sameButNew ({ U with heap := s₂.heap, slotsUsed := s₂.slotsUsed } : State) L mc ms := by
      refine ⟨?_, q2, q3, q4, q5, q6⟩
      obtain ⟨t, ht, -⟩ := State.frames_cons hr
      show ({ U with heap := s₂.heap, slotsUsed := s₂.slotsUsed } : State) = { U.setFrames U.frames with heap := s₂.heap, slotsUsed := s₂.slotsUsed }
      rw [State.setFrames_self ht]
    subst hg
    refine Or.inl ⟨v, ⟨(({ U with heap := s₂.heap, slotsUsed := s₂.slotsUsed } : State).setVm s₂.vm), Ls ++ L, c0 + mc, s0 + ms⟩,
      ⟨X.admits, X.cas, X.clock, X.frames, X.room, X.hears, X.method, X.code, (X.here.setHeapUsed s₂.heap s₂.slotsUsed).setVm hW'.alike, X.tail, State.WarmedH.trans X.warmed hW', X.limits, X.bytes, X.same.trans (hsame.setVm s.vm)⟩,
      ⟨g, mk, s₂, L, rfl, rfl, hqc, rfl, hL, rfl, rfl⟩, ?_⟩
    show Steps p.tables e below _ ((({ U with heap := s₂.heap, slotsUsed := s₂.slotsUsed } : State).setVm s₂.vm).setTop { g with pc := g.pc + len₂, stack := v.toList ++ g.stack })
    rw [← hs₂]
    exact hsteps
  · obtain ⟨e2, q2, q3, q4, q5, q6⟩ := id hsm
    have e3 : s₂ = ({ (U.calling g mk a).setFrames s₂.frames with heap := s₂.heap, slotsUsed := s₂.slotsUsed } : State).setVm s₂.vm := by
      have : s₂ = ({ s₂ with vm := (U.calling g mk a).vm } : State).setVm s₂.vm := rfl
      rw [e2] at this
      exact this
    have hf₂ : s₂.frames = .throwing q :: .java g :: U.frames.tail := hend
    have hW' : U.WarmedH s₂.vm := hW₂
    have hs₂ : s₂ = ((({ U with heap := s₂.heap, slotsUsed := s₂.slotsUsed } : State).setVm s₂.vm).setTop g).pushFrame (.throwing q) := by
      refine e3.trans ?_
      rw [hf₂, State.calling_eq h.top, State.setFrames_setFrames, State.pushFrame, State.frames_setTop _ hr', State.setTop_of_frames _ hr', State.setFrames_setFrames, hr]
      rfl
    have hsame : U.sameButNew ({ U with heap := s₂.heap, slotsUsed := s₂.slotsUsed } : State) L mc ms := by
      refine ⟨?_, q2, q3, q4, q5, q6⟩
      obtain ⟨t, ht, -⟩ := State.frames_cons hr
      show ({ U with heap := s₂.heap, slotsUsed := s₂.slotsUsed } : State) = { U.setFrames U.frames with heap := s₂.heap, slotsUsed := s₂.slotsUsed }
      rw [State.setFrames_self ht]
    subst hg
    refine Or.inr ⟨q, ⟨(({ U with heap := s₂.heap, slotsUsed := s₂.slotsUsed } : State).setVm s₂.vm), Ls ++ L, c0 + mc, s0 + ms⟩,
      ⟨X.admits, X.cas, X.clock, X.frames, X.room, X.hears, X.method, X.code, (X.here.setHeapUsed s₂.heap s₂.slotsUsed).setVm hW'.alike, X.tail, State.WarmedH.trans X.warmed hW', X.limits, X.bytes, X.same.trans (hsame.setVm s.vm)⟩,
      ⟨g, mk, s₂, L, E, ce, rfl, rfl, hx, hce, hcv, hcl, rfl, hL, rfl, rfl⟩, ?_⟩
    show Steps p.tables e below _ (((({ U with heap := s₂.heap, slotsUsed := s₂.slotsUsed } : State).setVm s₂.vm).setTop g).pushFrame (.throwing q))
    rw [← hs₂]
    exact hsteps
end Payer
section Calls
variable {p : Program} {l : Launch} {e : Env} {R : Room} {s : State} {m : MethodId} {args : Array Value} {below : List Frame} {meth : Method} {c : Code} {T : State} {locs : List Loc} {cells slots : Nat}
theorem vx_callV (X : Stand p l e R s m args below meth c T locs cells slots) (hexec : p.tables.exec = Jvm.exec) {own C : String} {index : Nat} {y : MethodName} {bytes : ByteArray} {maxL : Nat} {ret : Option FieldType}
    (hown : s.vm.findClass own = some m.cls) (hlink : (Cond.methodLink own index y).before args s = true) (hinst : (Cond.instanceMethod y).before args s = true) (hsel : (Cond.selects C y y).before args s = true)
    (hcode : (Cond.code y bytes maxL ret).before args s = true) (hy : y.cls ≠ "java/lang/invoke/MethodHandle" ∧ y.cls ≠ "java/lang/invoke/VarHandle")
    {W9 : Nat} {Pre : Pt → Array Value → Prop} {Post : Pt → Array Value → Option Value → Pt → Prop} {PostX : Pt → Array Value → Addr → Pt → Prop} (hK : vx_Back l R p e below s args y 3 W9 Pre Post PostX)
    {b : Addr} {cellB : Cell} (hcell : T.heap[b]? = some cellB) (hobj : cellB.vm.isStatics = false) (hcls : s.vm.findClass C = some cellB.cls)
    {g : JFrame} (hg : g.method = m) (hsize : g.locals.size = c.maxLocals) {argsL rest : List Value} (hlen : ∀ sig, parseMethodDescriptor y.desc = some sig → argsL.length = sig.parameters.length)
    (hstack : g.stack = argsL.reverse ++ .ref b :: rest) (hW : 2 * g.monitorRoom + (rest.map fun v => v.category).sum ≤ W9) (hdg : decode c.code g.pc = .ok (.invokevirtual index, 3))
    (hpre : ∀ vm₁, s.WarmedH vm₁ → Pre ⟨T.setVm vm₁, locs, cells, slots⟩ (Value.ref b :: argsL).toArray) :
    (∃ (v : Option Value) (vm₁ : Vm) (B : Pt), s.WarmedH vm₁ ∧ Stand p l e R s m args below meth c B.U B.locs B.cells B.slots ∧ Post ⟨T.setVm vm₁, locs, cells, slots⟩ (Value.ref b :: argsL).toArray v B ∧
      ∀ target, Steps p.tables e below (B.U.setTop { g with pc := g.pc + 3, stack := v.toList ++ rest }) target → Steps p.tables e below (T.setTop g) target) ∨
    (∃ (q : Addr) (vm₁ : Vm) (B : Pt), s.WarmedH vm₁ ∧ Stand p l e R s m args below meth c B.U B.locs B.cells B.slots ∧ PostX ⟨T.setVm vm₁, locs, cells, slots⟩ (Value.ref b :: argsL).toArray q B ∧
      Steps p.tables e below (T.setTop g) ((B.U.setTop { g with stack := rest }).pushFrame (.throwing q))) := by
  obtain ⟨mk, methM, hnamed, hmethM, hstM, habM⟩ := Cond.instanceMethod_spec hinst
  obtain ⟨methM', cM, hmethM', -, -, -, -, -, -, hsigM⟩ := Cond.code_spec hnamed hcode
  cases hmethM.symm.trans hmethM'
  obtain ⟨c2, r2, m2, q1, q2, q3, q4, kP, hkP, hkPi⟩ := Cond.selects_spec hsel
  cases hcls.symm.trans q1
  cases (State.methodFound?_of_named hnamed hy).symm.trans q2
  cases hnamed.symm.trans q3
  have hselP : selectMethod e.platform s.vm cellB.cls mk = .method mk := by rw [Launch.admits_selectMethod X.admits]; exact q4
  obtain ⟨vm₁, X₁, hstep₁⟩ := X.invokevirtual hexec hown hlink hnamed hmethM hstM hkP hkPi hy (a := b) (cell := cellB) hcell
    (fun z h => by rw [h] at hobj; cases hobj) hselP hmethM habM hkP hkPi (g := g) hg (argsL := argsL) (rest := rest) (hlen _ hsigM) hstack hdg
  rcases hK m meth c ⟨T.setVm vm₁, locs, cells, slots⟩ { g with stack := rest } (.invokevirtual index) mk (Value.ref b :: argsL).toArray X₁ hg hsize hdg hW (X₁.named hnamed) (hpre vm₁ X₁.warmed) with ⟨v, B, X', hpost, hsteps⟩ | ⟨q, B, X', hpost, hsteps⟩
  · exact Or.inl ⟨v, vm₁, B, X₁.warmed, X', hpost, fun target h => hstep₁ _ fun acts => by rw [doInvoke_state]; exact hsteps.trans h⟩
  · exact Or.inr ⟨q, vm₁, B, X₁.warmed, X', hpost, hstep₁ _ fun acts => by rw [doInvoke_state]; exact hsteps⟩
theorem vx_callS (X : Stand p l e R s m args below meth c T locs cells slots) (hexec : p.tables.exec = Jvm.exec) {own : String} {index : Nat} {y : MethodName} {bytes : ByteArray} {maxL : Nat} {ret : Option FieldType}
    (hown : s.vm.findClass own = some m.cls) (hlink : (Cond.methodLink own index y).before args s = true) (hstat : (Cond.static y).before args s = true) (hinit : (Cond.initialized y.cls).before args s = true)
    (hcode : (Cond.code y bytes maxL ret).before args s = true) (hy : y.cls ≠ "java/lang/invoke/MethodHandle" ∧ y.cls ≠ "java/lang/invoke/VarHandle")
    {W9 : Nat} {Pre : Pt → Array Value → Prop} {Post : Pt → Array Value → Option Value → Pt → Prop} {PostX : Pt → Array Value → Addr → Pt → Prop} (hK : vx_Back l R p e below s args y 3 W9 Pre Post PostX)
    {g : JFrame} (hg : g.method = m) (hsize : g.locals.size = c.maxLocals) {argsL rest : List Value} (hlen : ∀ sig, parseMethodDescriptor y.desc = some sig → argsL.length = sig.parameters.length)
    (hstack : g.stack = argsL.reverse ++ rest) (hW : 2 * g.monitorRoom + (rest.map fun v => v.category).sum ≤ W9) (hdg : decode c.code g.pc = .ok (.invokestatic index, 3))
    (hpre : ∀ vm₁, s.WarmedH vm₁ → Pre ⟨T.setVm vm₁, locs, cells, slots⟩ argsL.toArray) :
    (∃ (v : Option Value) (vm₁ : Vm) (B : Pt), s.WarmedH vm₁ ∧ Stand p l e R s m args below meth c B.U B.locs B.cells B.slots ∧ Post ⟨T.setVm vm₁, locs, cells, slots⟩ argsL.toArray v B ∧
      ∀ target, Steps p.tables e below (B.U.setTop { g with pc := g.pc + 3, stack := v.toList ++ rest }) target → Steps p.tables e below (T.setTop g) target) ∨
    (∃ (q : Addr) (vm₁ : Vm) (B : Pt), s.WarmedH vm₁ ∧ Stand p l e R s m args below meth c B.U B.locs B.cells B.slots ∧ PostX ⟨T.setVm vm₁, locs, cells, slots⟩ argsL.toArray q B ∧
      Steps p.tables e below (T.setTop g) ((B.U.setTop { g with stack := rest }).pushFrame (.throwing q))) := by
  obtain ⟨mk, hnamed⟩ := Cond.code_named hcode
  obtain ⟨methM, cM, hmethM, -, -, -, -, -, -, hsigM⟩ := Cond.code_spec hnamed hcode
  have hstatic : methM.isStatic = true := Cond.static_spec hnamed hmethM hstat
  obtain ⟨kP, hkP, -⟩ := className_of_methodNamed hnamed
  have hinitP : kP.init = .initialized := Cond.initialized_spec (findClass_of_methodNamed hnamed) hkP hinit
  obtain ⟨vm₁, X₁, hstep₁⟩ := X.invokestatic hexec hown hlink hnamed hmethM hstatic hkP hinitP hy (g := g) hg (argsL := argsL) (rest := rest) (hlen _ hsigM) hstack hdg
  rcases hK m meth c ⟨T.setVm vm₁, locs, cells, slots⟩ { g with stack := rest } (.invokestatic index) mk argsL.toArray X₁ hg hsize hdg hW (X₁.named hnamed) (hpre vm₁ X₁.warmed) with ⟨v, B, X', hpost, hsteps⟩ | ⟨q, B, X', hpost, hsteps⟩
  · exact Or.inl ⟨v, vm₁, B, X₁.warmed, X', hpost, fun target h => hstep₁ _ fun acts => by rw [doInvoke_state]; exact hsteps.trans h⟩
  · exact Or.inr ⟨q, vm₁, B, X₁.warmed, X', hpost, hstep₁ _ fun acts => by rw [doInvoke_state]; exact hsteps⟩
end Calls
theorem vx_cls {s : State} {T : State} {vm₁ : Vm} {E : String} {k : ClassId} (hW : s.WarmedH vm₁) (h : (T.setVm vm₁).vm.findClass E = some k) : s.vm.findClass E = some k := by
  have h1 : vm₁.findClass E = some k := h
  rw [hW.alike.findClass] at h1
  exact h1
/-- the method's frame g, with q thrown over it -/
def vx_W (p : Program) (l : Launch) (e : Env) (R : Room) (s : State) (m : MethodId) (args : Array Value) (below : List Frame) (meth : Method) (c : Code) (H : Heap) (locs : List Loc) (cells slots : Nat) (Q : State → Prop) (g : JFrame) (q : Addr) : Prop :=
  ∀ T : State, T.heap = H → Stand p l e R s m args below meth c T locs cells slots → ∃ t, Steps p.tables e below ((T.setTop g).pushFrame (.throwing q)) t ∧ Q t
def vx_Run (p : Program) (l : Launch) (e : Env) (R : Room) (s : State) (m : MethodId) (args : Array Value) (below : List Frame) (meth : Method) (c : Code) (H : Heap) (locs : List Loc) (cells slots mc ms : Nat) (g : JFrame) (rest : List Value) (Qa : State → Outcome → State → Prop) (XC : String → State → State → Prop) (free : Addr → Prop) : Prop :=
  ∀ T : State, T.heap = H → Stand p l e R s m args below meth c T locs cells slots →
    (∃ (v : Option Value) (st₀ t T' : State) (L : List Loc), st₀.heap = H ∧ Stand p l e R s m args below meth c T' (locs ++ L) (cells + mc) (slots + ms) ∧ (∀ q ∈ L, free q.base) ∧ T'.heap = t.heap ∧ T'.vm = t.vm ∧ Qa st₀ (.returned v) t ∧
      Goes p e below T g T' { g with pc := g.pc + 3, stack := v.toList ++ rest }) ∨
    (∃ (q : Addr) (st₀ t T' : State) (L : List Loc) (E : String) (ce : Cell), st₀.heap = H ∧ Stand p l e R s m args below meth c T' (locs ++ L) (cells + mc) (slots + ms) ∧ (∀ z ∈ L, free z.base) ∧ T'.heap = t.heap ∧ T'.vm = t.vm ∧ XC E st₀ t ∧ t.heap[q]? = some ce ∧ ce.vm = .none ∧ s.vm.findClass E = some ce.cls ∧
      Steps p.tables e below (T.setTop g) ((T'.setTop { g with stack := rest }).pushFrame (.throwing q)))
def vx_X {S : Type} (px : S → Prop) (B : String → S → State → Prop) (A : Nat → Prop) : String → State → State → Prop := fun E st t => ∃ u : S, px u ∧ B E u t ∧ va_F A st t
section Runs
variable {p : Program} {l : Launch} {e : Env} {R : Room} {s : State} {m : MethodId} {args : Array Value} {below : List Frame} {meth : Method} {c : Code} {H : Heap} {locs : List Loc} {cells slots : Nat}
variable {y : MethodName} {bytes cc : ByteArray} {maxL nL mc ms n index : Nat} {ret : Option FieldType} {ws : List Cond} {rm : Room} {Pc : Array Value → State → Prop} {Qc : Array Value → State → Outcome → State → Prop} {XC : String → State → State → Prop} {free : Addr → Prop} {Ts : List Cond} {own C : String} {b : Addr} {As rest : List Value} {g : JFrame}
theorem vx_callBack (cb : CallB R s args own index y bytes maxL ret ws rm mc ms n) (hM : vx_Met l y ws rm Pc Qc XC mc ms free) (hbl : FrameBlind Pc) : vx_Back l R p e below s args y 3 8 (PreOf R mc ms Pc) (PostOf Qc mc ms free) (vx_Post XC mc ms free) := by
  obtain ⟨hrc, hrs, hfr, hlo, hws, hcw, -, hini, -⟩ := cb
  exact vx_back (bytes := bytes) (maxL := maxL) (ret := ret) hM hbl hrc hrs hfr hlo hws hcw (fun a' U hW => word_at hW (Or.inl (by first | rfl | simp [Cond.onTables, Cond.keeps, Cond.steady])) hini)
theorem vx_runV (S : CallFix p m c cc nL s args Ts own) (hM : vx_Met l y ws rm Pc Qc XC mc ms free) (cw : CallW R s args own C index y bytes maxL ret ws rm mc ms n) (hp : PreV s H C b Pc As)
    (hg : g.method = m) (hn : As.length = n) (hsize : g.locals.size = nL) (hstack : g.stack = As.reverse ++ .ref b :: rest) (hW : 2 * g.monitorRoom + (rest.map fun v => v.category).sum ≤ 8) (hdg : decode cc g.pc = .ok (.invokevirtual index, 3)) (hf : cells + mc ≤ R.cells ∧ slots + ms ≤ R.slots) :
    vx_Run p l e R s m args below meth c H locs cells slots mc ms g rest (Qc (Value.ref b :: As).toArray) XC free := by
  have hK : vx_Back l R p e below s args y 3 8 (PreOf R mc ms Pc) (PostOf Qc mc ms free) (vx_Post XC mc ms free) := vx_callBack cw.1 hM hp.1
  obtain ⟨⟨-, -, -, -, -, -, hcode, -, hy, hlen, hl⟩, hin, hse⟩ := cw
  obtain ⟨hx, hb, hml, ho, -⟩ := S
  obtain ⟨-, ⟨cellB, hcB, hoB, hclB⟩, hPc⟩ := hp
  intro T hT X
  rcases vx_callV X hx (C := C) (bytes := bytes) (maxL := maxL) (ret := ret) ho hl hin hse hcode hy hK (by rw [hT]; exact hcB) hoB hclB hg (hsize.trans hml.symm) (argsL := As) (rest := rest) (fun sig h => hn.trans (hlen sig h)) hstack hW (by rw [hb]; exact hdg)
    (fun vm₁ hW₁ => ⟨hf.1, hf.2, hPc (T.setVm vm₁) hT hW₁⟩) with ⟨v, vm₁, ⟨U', l2, c2, s2⟩, hW₁, X', ⟨g', mk, t, L, e1, e2, hq, h1, hL, h2, h3⟩, st⟩ | ⟨q, vm₁, ⟨U', l2, c2, s2⟩, hW₁, X', ⟨g', mk, t, L, E, ce, e1, e2, hq, hce, hcv, hcl, h1, hL, h2, h3⟩, st⟩
  · dsimp only [Pt.U, Pt.locs, Pt.cells, Pt.slots] at X' e1 e2 h1 h2 h3 st
    subst h1; subst h2; subst h3
    exact Or.inl ⟨v, (T.setVm vm₁).calling g' mk (Value.ref b :: As).toArray, t, U', L, hT, X', hL, e1, e2, hq, st⟩
  · dsimp only [Pt.U, Pt.locs, Pt.cells, Pt.slots] at X' e1 e2 h1 h2 h3 st hcl
    subst h1; subst h2; subst h3
    exact Or.inr ⟨q, (T.setVm vm₁).calling g' mk (Value.ref b :: As).toArray, t, U', L, E, ce, hT, X', hL, e1, e2, hq, hce, hcv, vx_cls hW₁ hcl, st⟩
theorem vx_runS (S : CallFix p m c cc nL s args Ts own) (hM : vx_Met l y ws rm Pc Qc XC mc ms free) (cw : CallB R s args own index y bytes maxL ret ws rm mc ms n ∧ (Cond.static y).before args s = true) (hp : PreS s H Pc As)
    (hg : g.method = m) (hn : As.length = n) (hsize : g.locals.size = nL) (hstack : g.stack = As.reverse ++ rest) (hW : 2 * g.monitorRoom + (rest.map fun v => v.category).sum ≤ 8) (hdg : decode cc g.pc = .ok (.invokestatic index, 3)) (hf : cells + mc ≤ R.cells ∧ slots + ms ≤ R.slots) :
    vx_Run p l e R s m args below meth c H locs cells slots mc ms g rest (Qc As.toArray) XC free := by
  have hK : vx_Back l R p e below s args y 3 8 (PreOf R mc ms Pc) (PostOf Qc mc ms free) (vx_Post XC mc ms free) := vx_callBack cw.1 hM hp.1
  obtain ⟨⟨-, -, -, -, -, -, hcode, hini, hy, hlen, hl⟩, hstt⟩ := cw
  obtain ⟨hx, hb, hml, ho, -⟩ := S
  intro T hT X
  rcases vx_callS X hx (bytes := bytes) (maxL := maxL) (ret := ret) ho hl hstt hini hcode hy hK hg (hsize.trans hml.symm) (argsL := As) (rest := rest) (fun sig h => hn.trans (hlen sig h)) hstack hW (by rw [hb]; exact hdg)
    (fun vm₁ hW₁ => ⟨hf.1, hf.2, hp.2 (T.setVm vm₁) hT hW₁⟩) with ⟨v, vm₁, ⟨U', l2, c2, s2⟩, hW₁, X', ⟨g', mk, t, L, e1, e2, hq, h1, hL, h2, h3⟩, st⟩ | ⟨q, vm₁, ⟨U', l2, c2, s2⟩, hW₁, X', ⟨g', mk, t, L, E, ce, e1, e2, hq, hce, hcv, hcl, h1, hL, h2, h3⟩, st⟩
  · dsimp only [Pt.U, Pt.locs, Pt.cells, Pt.slots] at X' e1 e2 h1 h2 h3 st
    subst h1; subst h2; subst h3
    exact Or.inl ⟨v, (T.setVm vm₁).calling g' mk As.toArray, t, U', L, hT, X', hL, e1, e2, hq, st⟩
  · dsimp only [Pt.U, Pt.locs, Pt.cells, Pt.slots] at X' e1 e2 h1 h2 h3 st hcl
    subst h1; subst h2; subst h3
    exact Or.inr ⟨q, (T.setVm vm₁).calling g' mk As.toArray, t, U', L, E, ce, hT, X', hL, e1, e2, hq, hce, hcv, vx_cls hW₁ hcl, st⟩
end Runs
section Rows
variable {p : Program} {l : Launch} {e : Env} {R : Room} {s : State} {m : MethodId} {args : Array Value} {below : List Frame} {meth : Method} {c : Code} {H : Heap} {locs : List Loc} {cells slots : Nat} {Q : State → Prop}
variable {mc ms : Nat} {free : Addr → Prop} {A0 A1 : Nat → Prop} {H0 : Heap} {a : Array Value} {pc : Nat} {ls : Array Slot} {st0 rest : List Value}
theorem vx_keep {st₀ t T' : State} {L : List Loc} (h0 : st₀.heap = H) (e1 : T'.heap = t.heap) (hS : va_S A0 H0 H locs) (hA : ∀ q, q < H.size → A1 q → A0 q) (hf : ∀ q, free q → A0 q) (hL : ∀ q ∈ L, free q.base) (hF : va_F A1 st₀ t) :
    H.size ≤ T'.heap.size ∧ (∀ q : Nat, q < H.size → ¬ A1 q → T'.heap[q]? = H[q]?) ∧ va_S A0 H0 T'.heap (locs ++ L) := by
  obtain ⟨hz, hk⟩ := hF
  rw [h0] at hz hk
  exact ⟨by rw [e1]; exact hz, fun q h1 h2 => by rw [e1]; exact hk q h1 h2,
    ⟨Nat.le_trans hS.1 (by rw [e1]; exact hz), fun q h1 h2 => by rw [e1, hk q (Nat.lt_of_lt_of_le h1 hS.1) (fun z => h2 (hA q (Nat.lt_of_lt_of_le h1 hS.1) z))]; exact hS.2.1 q h1 h2, fun q hq => by
      rcases List.mem_append.mp hq with h | h
      · exact hS.2.2 q h
      · exact hf _ (hL q h)⟩⟩
theorem vx_calli {S SX : Type} {post : Int32 → S → Prop} {px : SX → Prop} {B : S → State → Prop} {BX : String → SX → State → Prop} {AX : Nat → Prop} (hr : vx_Run p l e R s m args below meth c H locs cells slots mc ms (F0 m pc ls st0) rest (va_Qi post B A1 a) (vx_X px BX AX) free) (hS : va_S A0 H0 H locs) (hA : ∀ q, q < H.size → A1 q → A0 q) (hf : ∀ q, free q → A0 q) (hAX : ∀ q, q < H.size → AX q → A0 q)
    (kx : ∀ (E : String) (ce : Cell) (q9 : Addr) (u : SX) (t : State) (H1 : Heap) (locs1 : List Loc), t.heap = H1 → s.vm.Alike t.vm → px u → BX E u t → H.size ≤ H1.size → (∀ q : Nat, q < H.size → ¬ AX q → H1[q]? = H[q]?) → va_S A0 H0 H1 locs1 → H1[q9]? = some ce → ce.vm = .none → s.vm.findClass E = some ce.cls → vx_W p l e R s m args below meth c H1 locs1 (cells + mc) (slots + ms) Q (F0 m pc ls rest) q9)
    (kk : ∀ (r : Int32) (u : S) (t : State) (H1 : Heap) (locs1 : List Loc), t.heap = H1 → s.vm.Alike t.vm → post r u → B u t → H.size ≤ H1.size → (∀ q : Nat, q < H.size → ¬ A1 q → H1[q]? = H[q]?) → va_S A0 H0 H1 locs1 → W p l e R s m args below meth c H1 locs1 (cells + mc) (slots + ms) Q (F0 m (pc + 3) ls (.int r :: rest))) : W p l e R s m args below meth c H locs cells slots Q (F0 m pc ls st0) := by
  intro T hT X
  rcases hr T hT X with ⟨v, st₀, t, T', L, h0, X', hL, e1, e2, ⟨⟨r, u, hv, hp, hb⟩, hF⟩, st⟩ | ⟨q, st₀, t, T', L, E, ce, h0, X', hL, e1, e2, ⟨u, hp, hb, hF⟩, hce, hcv, hcl, st⟩
  · cases hv
    obtain ⟨k1, k2, k3⟩ := vx_keep h0 e1 hS hA hf hL hF
    obtain ⟨t2, a1, b1⟩ := kk r u t T'.heap (locs ++ L) e1.symm (by rw [← e2]; exact X'.warmed.alike) hp hb k1 k2 k3 T' rfl X'
    exact ⟨t2, st t2 a1, b1⟩
  · obtain ⟨k1, k2, k3⟩ := vx_keep h0 e1 hS hAX hf hL hF
    obtain ⟨t2, a1, b1⟩ := kx E ce q u t T'.heap (locs ++ L) e1.symm (by rw [← e2]; exact X'.warmed.alike) hp hb k1 k2 k3 (by rw [e1]; exact hce) hcv hcl T' rfl X'
    exact ⟨t2, st.trans a1, b1⟩
theorem vx_calll {S SX : Type} {post : Int64 → S → Prop} {px : SX → Prop} {B : S → State → Prop} {BX : String → SX → State → Prop} {AX : Nat → Prop} (hr : vx_Run p l e R s m args below meth c H locs cells slots mc ms (F0 m pc ls st0) rest (va_Ql post B A1 a) (vx_X px BX AX) free) (hS : va_S A0 H0 H locs) (hA : ∀ q, q < H.size → A1 q → A0 q) (hf : ∀ q, free q → A0 q) (hAX : ∀ q, q < H.size → AX q → A0 q)
    (kx : ∀ (E : String) (ce : Cell) (q9 : Addr) (u : SX) (t : State) (H1 : Heap) (locs1 : List Loc), t.heap = H1 → s.vm.Alike t.vm → px u → BX E u t → H.size ≤ H1.size → (∀ q : Nat, q < H.size → ¬ AX q → H1[q]? = H[q]?) → va_S A0 H0 H1 locs1 → H1[q9]? = some ce → ce.vm = .none → s.vm.findClass E = some ce.cls → vx_W p l e R s m args below meth c H1 locs1 (cells + mc) (slots + ms) Q (F0 m pc ls rest) q9)
    (kk : ∀ (r : Int64) (u : S) (t : State) (H1 : Heap) (locs1 : List Loc), t.heap = H1 → s.vm.Alike t.vm → post r u → B u t → H.size ≤ H1.size → (∀ q : Nat, q < H.size → ¬ A1 q → H1[q]? = H[q]?) → va_S A0 H0 H1 locs1 → W p l e R s m args below meth c H1 locs1 (cells + mc) (slots + ms) Q (F0 m (pc + 3) ls (.long r :: rest))) : W p l e R s m args below meth c H locs cells slots Q (F0 m pc ls st0) := by
  intro T hT X
  rcases hr T hT X with ⟨v, st₀, t, T', L, h0, X', hL, e1, e2, ⟨⟨r, u, hv, hp, hb⟩, hF⟩, st⟩ | ⟨q, st₀, t, T', L, E, ce, h0, X', hL, e1, e2, ⟨u, hp, hb, hF⟩, hce, hcv, hcl, st⟩
  · cases hv
    obtain ⟨k1, k2, k3⟩ := vx_keep h0 e1 hS hA hf hL hF
    obtain ⟨t2, a1, b1⟩ := kk r u t T'.heap (locs ++ L) e1.symm (by rw [← e2]; exact X'.warmed.alike) hp hb k1 k2 k3 T' rfl X'
    exact ⟨t2, st t2 a1, b1⟩
  · obtain ⟨k1, k2, k3⟩ := vx_keep h0 e1 hS hAX hf hL hF
    obtain ⟨t2, a1, b1⟩ := kx E ce q u t T'.heap (locs ++ L) e1.symm (by rw [← e2]; exact X'.warmed.alike) hp hb k1 k2 k3 (by rw [e1]; exact hce) hcv hcl T' rfl X'
    exact ⟨t2, st.trans a1, b1⟩
theorem vx_callf {S SX : Type} {post : UInt32 → S → Prop} {px : SX → Prop} {B : S → State → Prop} {BX : String → SX → State → Prop} {AX : Nat → Prop} (hr : vx_Run p l e R s m args below meth c H locs cells slots mc ms (F0 m pc ls st0) rest (va_Qf post B A1 a) (vx_X px BX AX) free) (hS : va_S A0 H0 H locs) (hA : ∀ q, q < H.size → A1 q → A0 q) (hf : ∀ q, free q → A0 q) (hAX : ∀ q, q < H.size → AX q → A0 q)
    (kx : ∀ (E : String) (ce : Cell) (q9 : Addr) (u : SX) (t : State) (H1 : Heap) (locs1 : List Loc), t.heap = H1 → s.vm.Alike t.vm → px u → BX E u t → H.size ≤ H1.size → (∀ q : Nat, q < H.size → ¬ AX q → H1[q]? = H[q]?) → va_S A0 H0 H1 locs1 → H1[q9]? = some ce → ce.vm = .none → s.vm.findClass E = some ce.cls → vx_W p l e R s m args below meth c H1 locs1 (cells + mc) (slots + ms) Q (F0 m pc ls rest) q9)
    (kk : ∀ (r : UInt32) (u : S) (t : State) (H1 : Heap) (locs1 : List Loc), t.heap = H1 → s.vm.Alike t.vm → post r u → B u t → H.size ≤ H1.size → (∀ q : Nat, q < H.size → ¬ A1 q → H1[q]? = H[q]?) → va_S A0 H0 H1 locs1 → W p l e R s m args below meth c H1 locs1 (cells + mc) (slots + ms) Q (F0 m (pc + 3) ls (.float r :: rest))) : W p l e R s m args below meth c H locs cells slots Q (F0 m pc ls st0) := by
  intro T hT X
  rcases hr T hT X with ⟨v, st₀, t, T', L, h0, X', hL, e1, e2, ⟨⟨r, u, hv, hp, hb⟩, hF⟩, st⟩ | ⟨q, st₀, t, T', L, E, ce, h0, X', hL, e1, e2, ⟨u, hp, hb, hF⟩, hce, hcv, hcl, st⟩
  · cases hv
    obtain ⟨k1, k2, k3⟩ := vx_keep h0 e1 hS hA hf hL hF
    obtain ⟨t2, a1, b1⟩ := kk r u t T'.heap (locs ++ L) e1.symm (by rw [← e2]; exact X'.warmed.alike) hp hb k1 k2 k3 T' rfl X'
    exact ⟨t2, st t2 a1, b1⟩
  · obtain ⟨k1, k2, k3⟩ := vx_keep h0 e1 hS hAX hf hL hF
    obtain ⟨t2, a1, b1⟩ := kx E ce q u t T'.heap (locs ++ L) e1.symm (by rw [← e2]; exact X'.warmed.alike) hp hb k1 k2 k3 (by rw [e1]; exact hce) hcv hcl T' rfl X'
    exact ⟨t2, st.trans a1, b1⟩
theorem vx_calld {S SX : Type} {post : UInt64 → S → Prop} {px : SX → Prop} {B : S → State → Prop} {BX : String → SX → State → Prop} {AX : Nat → Prop} (hr : vx_Run p l e R s m args below meth c H locs cells slots mc ms (F0 m pc ls st0) rest (va_Qd post B A1 a) (vx_X px BX AX) free) (hS : va_S A0 H0 H locs) (hA : ∀ q, q < H.size → A1 q → A0 q) (hf : ∀ q, free q → A0 q) (hAX : ∀ q, q < H.size → AX q → A0 q)
    (kx : ∀ (E : String) (ce : Cell) (q9 : Addr) (u : SX) (t : State) (H1 : Heap) (locs1 : List Loc), t.heap = H1 → s.vm.Alike t.vm → px u → BX E u t → H.size ≤ H1.size → (∀ q : Nat, q < H.size → ¬ AX q → H1[q]? = H[q]?) → va_S A0 H0 H1 locs1 → H1[q9]? = some ce → ce.vm = .none → s.vm.findClass E = some ce.cls → vx_W p l e R s m args below meth c H1 locs1 (cells + mc) (slots + ms) Q (F0 m pc ls rest) q9)
    (kk : ∀ (r : UInt64) (u : S) (t : State) (H1 : Heap) (locs1 : List Loc), t.heap = H1 → s.vm.Alike t.vm → post r u → B u t → H.size ≤ H1.size → (∀ q : Nat, q < H.size → ¬ A1 q → H1[q]? = H[q]?) → va_S A0 H0 H1 locs1 → W p l e R s m args below meth c H1 locs1 (cells + mc) (slots + ms) Q (F0 m (pc + 3) ls (.double r :: rest))) : W p l e R s m args below meth c H locs cells slots Q (F0 m pc ls st0) := by
  intro T hT X
  rcases hr T hT X with ⟨v, st₀, t, T', L, h0, X', hL, e1, e2, ⟨⟨r, u, hv, hp, hb⟩, hF⟩, st⟩ | ⟨q, st₀, t, T', L, E, ce, h0, X', hL, e1, e2, ⟨u, hp, hb, hF⟩, hce, hcv, hcl, st⟩
  · cases hv
    obtain ⟨k1, k2, k3⟩ := vx_keep h0 e1 hS hA hf hL hF
    obtain ⟨t2, a1, b1⟩ := kk r u t T'.heap (locs ++ L) e1.symm (by rw [← e2]; exact X'.warmed.alike) hp hb k1 k2 k3 T' rfl X'
    exact ⟨t2, st t2 a1, b1⟩
  · obtain ⟨k1, k2, k3⟩ := vx_keep h0 e1 hS hAX hf hL hF
    obtain ⟨t2, a1, b1⟩ := kx E ce q u t T'.heap (locs ++ L) e1.symm (by rw [← e2]; exact X'.warmed.alike) hp hb k1 k2 k3 (by rw [e1]; exact hce) hcv hcl T' rfl X'
    exact ⟨t2, st.trans a1, b1⟩
theorem vx_callv {S SX : Type} {post : S → Prop} {px : SX → Prop} {B : S → State → Prop} {BX : String → SX → State → Prop} {AX : Nat → Prop} (hr : vx_Run p l e R s m args below meth c H locs cells slots mc ms (F0 m pc ls st0) rest (va_Qv post B A1 a) (vx_X px BX AX) free) (hS : va_S A0 H0 H locs) (hA : ∀ q, q < H.size → A1 q → A0 q) (hf : ∀ q, free q → A0 q) (hAX : ∀ q, q < H.size → AX q → A0 q)
    (kx : ∀ (E : String) (ce : Cell) (q9 : Addr) (u : SX) (t : State) (H1 : Heap) (locs1 : List Loc), t.heap = H1 → s.vm.Alike t.vm → px u → BX E u t → H.size ≤ H1.size → (∀ q : Nat, q < H.size → ¬ AX q → H1[q]? = H[q]?) → va_S A0 H0 H1 locs1 → H1[q9]? = some ce → ce.vm = .none → s.vm.findClass E = some ce.cls → vx_W p l e R s m args below meth c H1 locs1 (cells + mc) (slots + ms) Q (F0 m pc ls rest) q9)
    (kk : ∀ (u : S) (t : State) (H1 : Heap) (locs1 : List Loc), t.heap = H1 → s.vm.Alike t.vm → post u → B u t → H.size ≤ H1.size → (∀ q : Nat, q < H.size → ¬ A1 q → H1[q]? = H[q]?) → va_S A0 H0 H1 locs1 → W p l e R s m args below meth c H1 locs1 (cells + mc) (slots + ms) Q (F0 m (pc + 3) ls (rest))) : W p l e R s m args below meth c H locs cells slots Q (F0 m pc ls st0) := by
  intro T hT X
  rcases hr T hT X with ⟨v, st₀, t, T', L, h0, X', hL, e1, e2, ⟨⟨u, hv, hp, hb⟩, hF⟩, st⟩ | ⟨q, st₀, t, T', L, E, ce, h0, X', hL, e1, e2, ⟨u, hp, hb, hF⟩, hce, hcv, hcl, st⟩
  · cases hv
    obtain ⟨k1, k2, k3⟩ := vx_keep h0 e1 hS hA hf hL hF
    obtain ⟨t2, a1, b1⟩ := kk u t T'.heap (locs ++ L) e1.symm (by rw [← e2]; exact X'.warmed.alike) hp hb k1 k2 k3 T' rfl X'
    exact ⟨t2, st t2 a1, b1⟩
  · obtain ⟨k1, k2, k3⟩ := vx_keep h0 e1 hS hAX hf hL hF
    obtain ⟨t2, a1, b1⟩ := kx E ce q u t T'.heap (locs ++ L) e1.symm (by rw [← e2]; exact X'.warmed.alike) hp hb k1 k2 k3 (by rw [e1]; exact hce) hcv hcl T' rfl X'
    exact ⟨t2, st.trans a1, b1⟩
/-- caught by the row x of this method's table; the rows ahead don't take it -/
theorem vx_catch {own name : String} {E : String} {ce : Cell} {q : Addr} (hown : s.vm.findClass own = some m.cls) (pre : List ExceptionTableEntry) (x : ExceptionTableEntry) (suf : List ExceptionTableEntry) (hsplit : c.exceptionTable.toList = pre ++ x :: suf)
    (hpass : ∀ z ∈ pre, covers z pc = false ∨ (z.catchType ≠ 0 ∧ ∃ nm : String, (Cond.classLink own z.catchType nm).before args s = true ∧ va_Nc E nm s)) (hx : covers x pc = true) (h0 : x.catchType ≠ 0)
    (hlink : (Cond.classLink own x.catchType name).before args s = true) (hcast : (Cond.castable E name).before args s = true) (hcell : H[q]? = some ce) (hv : ce.vm = .none) (hcl : s.vm.findClass E = some ce.cls)
    (kk : W p l e R s m args below meth c H locs cells slots Q (F0 m x.handlerPc ls [.ref q])) : vx_W p l e R s m args below meth c H locs cells slots Q (F0 m pc ls rest) q := by
  intro T hT X
  have hpl : e.platform.magicAccessors = ({} : Platform).magicAccessors := by rw [X.admits.platform]
  obtain ⟨c3, c4, hc3, hc4, hasg⟩ := Cond.castable_spec hcast
  cases Option.some.inj (hc3.symm.trans hcl)
  obtain ⟨c5, hc5, hcl5⟩ := Cond.classLink_spec hown hlink e.platform hpl
  cases Option.some.inj (hc4.symm.trans hc5)
  obtain ⟨vm', X', st⟩ := X.thenCaughtThrough q (g := F0 m pc ls rest) rfl (Steps.refl _) (by rw [hT]; exact hcell) (by rw [hv]; rfl) (by obtain ⟨k9, h9, -⟩ := Vm.findClass_spec hcl; exact ⟨k9, h9⟩) pre x suf hsplit
    (fun z hz => by
      rcases hpass z hz with h | ⟨hz0, nm, hl1, hn1⟩
      · exact Or.inl h
      · obtain ⟨c6, hc6, hcl6⟩ := Cond.classLink_spec hown hl1 e.platform hpl
        obtain ⟨a8, b8, h1, h2, h3⟩ := hn1
        cases Option.some.inj (h1.symm.trans hcl)
        cases Option.some.inj (h2.symm.trans hc6)
        exact Or.inr ⟨hz0, _, hcl6, h3⟩) hx (Or.inr ⟨h0, c4, hcl5, hasg⟩)
  obtain ⟨t, a1, b1⟩ := kk (T.setVm vm') hT X'
  exact ⟨t, st.trans a1, b1⟩
end Rows
section Ends
variable {p : Program} {l : Launch} {e : Env} {R : Room} {s : State} {m : MethodId} {args : Array Value} {below : List Frame} {meth : Method} {c : Code} {H : Heap} {locs : List Loc} {cells slots : Nat} {Q : State → Prop}
variable {mc ms : Nat} {free : Addr → Prop} {A0 A1 : Nat → Prop} {H0 : Heap} {a : Array Value} {ls : Array Slot} {st0 rest : List Value}
variable {Qc : Array Value → State → Outcome → State → Prop} {XC : String → State → State → Prop}
/-- what a body that may throw owes at its end -/
def vx_MQ (below : List Frame) (Qc : Array Value → State → Outcome → State → Prop) (XC : String → State → State → Prop) (a : Array Value) (s : State) (mc ms : Nat) (free : Addr → Prop) : State → Prop := fun t =>
  ∃ o, t.status = .running ∧ Ended t below o ∧ vx_Q Qc XC mc ms free a s o t
theorem vx_ret {g : JFrame} {mc ms : Nat} (k : W p l e R s m args below meth c H locs cells slots (MQ below Qc args s mc ms free) g) : W p l e R s m args below meth c H locs cells slots (vx_MQ below Qc XC args s mc ms free) g := by
  intro T hT X
  obtain ⟨t, a1, o, b1, b2, b3, b4⟩ := k T hT X
  exact ⟨t, a1, o, b1, b2, Or.inl ⟨b3, b4⟩⟩
/-- not caught here: it goes on to the caller -/
theorem vx_widen {g : JFrame} {q : Addr} {k n : Nat} (h1 : cells ≤ k) (h2 : slots ≤ n) (kk : vx_W p l e R s m args below meth c H locs k n Q g q) : vx_W p l e R s m args below meth c H locs cells slots Q g q := fun T hT X => kk T hT (stand_widen X h1 h2)
theorem vx_out {pc : Nat} {E : String} {ce : Cell} {q : Addr} {mc ms : Nat} (hout : ∀ x ∈ c.exceptionTable.toList, covers x pc = false) (hlocks : meth.locks = false) (hcell : H[q]? = some ce) (hv : ce.vm = .none) (hcl : s.vm.findClass E = some ce.cls)
    (hx : ∀ t : State, t.heap = H → s.vm.Alike t.vm → XC E s t) (hf : ∀ z ∈ locs, free z.base) (hc : cells ≤ mc) (hs : slots ≤ ms) :
    vx_W p l e R s m args below meth c H locs cells slots (vx_MQ below Qc XC args s mc ms free) (F0 m pc ls rest) q := by
  intro T hT X
  obtain ⟨st1, hrun, hend, hW, hsm⟩ := X.leaveThrown q (g := F0 m pc ls rest) rfl rfl rfl hout hlocks
  have hcell9 : (T.setFrames (.throwing q :: below)).heap[q]? = some ce := by
    show T.heap[q]? = some ce
    rw [hT]; exact hcell
  exact ⟨_, st1, .threw q, hrun, hend, Or.inr ⟨q, rfl, E, ce, locs, hx _ hT hW.alike, hcell9, hv, hcl, hW, hsm.mono hc hs, hf⟩⟩
theorem vx_frame {U : State} {k n : Nat} (h : s.sameButNew ({ U with vm := s.vm } : State) locs k n) : s.heap.size ≤ U.heap.size ∧ ∀ q : Nat, q < s.heap.size → (∀ z ∈ locs, z.base ≠ q) → U.heap[q]? = s.heap[q]? := by
  obtain ⟨-, h2, -, -, -, h6⟩ := h
  refine ⟨h2, fun q hq hz => ?_⟩
  obtain ⟨c9, e1, e2, e3, e4⟩ := h6 q _ (Array.getElem?_eq_getElem hq)
  have hs : c9.slots = (s.heap[q]).slots := Array.ext_getElem? fun i => e4 i fun hm => hz _ hm rfl
  have h9 : c9 = s.heap[q] := by
    rw [hs] at e2
    exact e2
  have e5 : U.heap[q]? = some c9 := e1
  rw [e5, h9, Array.getElem?_eq_getElem hq]
/-- the words of a throw but the four that speak of the heap -/
def vx_no (w : Cond) : Bool := decide (w ≠ .isRef (.static Bundle.tN "UNASSIGNED_STACK" Bundle.steD)) && decide (w ≠ .isRef (.static Bundle.tN "SUPPRESSED_SENTINEL" Bundle.listD)) && decide (w ≠ .laysStatic Bundle.tN "UNASSIGNED_STACK" Bundle.steD) && decide (w ≠ .laysStatic Bundle.tN "SUPPRESSED_SENTINEL" Bundle.listD)
def vx_at0 (own : String) (ic : Nat) (X : String) (names : List String) : List Cond := (Bundle.ownAtoms0 own ic X names).filter vx_no
def vx_atS (own : String) (ic : Nat) (X : String) (names : List String) : List Cond := (Bundle.ownAtoms own ic X names).filter vx_no
/-- a word that the tables alone decide, or a good one -/
def vx_ot (w : Cond) : Bool := w.onTables || goodWord w
theorem vx_ot_at {args a' : Array Value} {s U : State} {w : Cond} (hW : s.WarmedH U.vm) (hvm : s.vm = U.vm) (hg : vx_ot w = true) (h : w.before args s = true) : w.before a' U = true := by
  simp only [vx_ot, Bool.or_eq_true] at hg
  rcases hg with hg | hg
  · exact va_tabs hg hvm h
  · exact word_at hW (good_of_word hg) h
/-- a list's words: the good ones out of the method's own list, the others by premises of their own -/
theorem vx_hat {args : Array Value} {s : State} {L B : List Cond} (h1 : ∀ w ∈ L.filter goodWord, w.before args s = true) (h2 : ∀ w ∈ L.filter (fun w => !goodWord w), w ∈ B) (h3 : ∀ w ∈ B, w.before args s = true) : ∀ w ∈ L, w.before args s = true := by
  intro w hw
  by_cases g : goodWord w = true
  · exact h1 w (List.mem_filter.mpr ⟨hw, g⟩)
  · refine h3 w (h2 w (List.mem_filter.mpr ⟨hw, ?_⟩))
    show (!goodWord w) = true
    cases hgw : goodWord w
    · rfl
    · exact absurd hgw g
theorem vx_c {args : Array Value} {s : State} {w : Cond} {B : List Cond} (h : w.before args s = true) (t : ∀ w ∈ B, w.before args s = true) : ∀ w' ∈ w :: B, w'.before args s = true := fun w' h' => (List.mem_cons.mp h').elim (fun e => by rw [e]; exact h) (t w')
theorem vx_n {args : Array Value} {s : State} : ∀ w ∈ ([] : List Cond), w.before args s = true := fun _ h => nomatch h
theorem vx_own {args : Array Value} {s : State} {L : List Cond} (h1 : ∀ w ∈ L.filter vx_no, w.before args s = true)
    (hU : (Cond.isRef (.static Bundle.tN "UNASSIGNED_STACK" Bundle.steD)).before args s = true) (hN : (Cond.isRef (.static Bundle.tN "SUPPRESSED_SENTINEL" Bundle.listD)).before args s = true)
    (lU : (Cond.laysStatic Bundle.tN "UNASSIGNED_STACK" Bundle.steD).before args s = true) (lN : (Cond.laysStatic Bundle.tN "SUPPRESSED_SENTINEL" Bundle.listD).before args s = true) : ∀ w ∈ L, w.before args s = true := by
  intro w hw
  by_cases e1 : w = .isRef (.static Bundle.tN "UNASSIGNED_STACK" Bundle.steD)
  · rw [e1]; exact hU
  · by_cases e2 : w = .isRef (.static Bundle.tN "SUPPRESSED_SENTINEL" Bundle.listD)
    · rw [e2]; exact hN
    · by_cases e3 : w = .laysStatic Bundle.tN "UNASSIGNED_STACK" Bundle.steD
      · rw [e3]; exact lU
      · by_cases e4 : w = .laysStatic Bundle.tN "SUPPRESSED_SENTINEL" Bundle.listD
        · rw [e4]; exact lN
        · exact h1 w (List.mem_filter.mpr ⟨hw, by unfold vx_no; rw [decide_eq_true e1, decide_eq_true e2, decide_eq_true e3, decide_eq_true e4]; rfl⟩)
/-- where a static field lies, its class's statics cell in H -/
def vx_L (C n d : String) (A : Nat → Prop) (U : State) (H : Heap) : Prop := ∃ (c : ClassId) (k : Class) (i : Nat) (f : Field) (a : Nat) (cell : Cell), U.vm.findClass C = some c ∧ U.fieldFound? C n d = some (c, k, i, f) ∧ f.isStatic = true ∧ k.statics = some a ∧ H[a]? = some cell ∧ cell.vm.isStatics = true ∧ cell.cls = c ∧ f.slot < cell.slots.size ∧ k.staticTypes[f.slot]? = some f.type ∧ ¬ A a
theorem vx_L.moved {C n d : String} {A : Nat → Prop} {u U : State} {H : Heap} (hvm : u.vm.Alike U.vm) (h : vx_L C n d A u H) : vx_L C n d A U H := by
  obtain ⟨c, k, i, f, a, cell, h1, h2, h3, h4, h5, h6, h7, h8, h9, h10⟩ := h
  obtain ⟨k', hi', he⟩ := State.fieldFound?_setVm hvm h2
  exact ⟨c, k', i, f, a, cell, by rw [hvm.findClass]; exact h1, hi', h3, by rw [he]; exact h4, h5, h6, h7, h8, by rw [he]; exact h9, h10⟩
theorem vx_L.kept {C n d : String} {A : Nat → Prop} {U : State} {H H1 : Heap} (h : vx_L C n d A U H) (hq : ∀ a : Nat, a < H.size → ¬ A a → H1[a]? = H[a]?) : vx_L C n d A U H1 := by
  obtain ⟨c, k, i, f, a, cell, h1, h2, h3, h4, h5, h6, h7, h8, h9, h10⟩ := h
  exact ⟨c, k, i, f, a, cell, h1, h2, h3, h4, by rw [hq a (Array.getElem?_eq_some_iff.mp h5).1 h10]; exact h5, h6, h7, h8, h9, h10⟩
theorem vx_L.narrow {C n d : String} {A B : Nat → Prop} {U : State} {H : Heap} (h : vx_L C n d A U H) (hAB : ∀ q, B q → A q) : vx_L C n d B U H := by
  obtain ⟨c, k, i, f, a, cell, h1, h2, h3, h4, h5, h6, h7, h8, h9, h10⟩ := h
  exact ⟨c, k, i, f, a, cell, h1, h2, h3, h4, h5, h6, h7, h8, h9, fun z => h10 (hAB _ z)⟩
theorem vx_L.word {C n d : String} {A : Nat → Prop} {s : State} {args : Array Value} (h : vx_L C n d A s s.heap) : (Cond.laysStatic C n d).before args s = true := by
  obtain ⟨c, k, i, f, a, cell, h1, h2, h3, h4, h5, h6, h7, h8, h9, -⟩ := h
  show (Cond.laysStatic C n d).holds args s none s [] = true
  exact Cond.laysStatic_of h1 h2 h3 h4 h5 h6 h7 h8 h9
/-- .. and what it holds: null or some reference -/
def vx_Zq (C n d : String) (A : Nat → Prop) (U : State) (H : Heap) : Prop := va_Zq C n d A U H ∧ vx_L C n d A U H
theorem vx_Zq.moved {C n d : String} {A : Nat → Prop} {u U : State} {H : Heap} (hvm : u.vm.Alike U.vm) (h : vx_Zq C n d A u H) : vx_Zq C n d A U H := ⟨va_Zq.moved hvm h.1, vx_L.moved hvm h.2⟩
theorem vx_Zq.kept {C n d : String} {A : Nat → Prop} {U : State} {H H1 : Heap} (h : vx_Zq C n d A U H) (hq : ∀ a : Nat, a < H.size → ¬ A a → H1[a]? = H[a]?) : vx_Zq C n d A U H1 := ⟨va_Zq.kept h.1 hq, vx_L.kept h.2 hq⟩
theorem vx_Zq.narrow {C n d : String} {A B : Nat → Prop} {U : State} {H : Heap} (h : vx_Zq C n d A U H) (hAB : ∀ q, B q → A q) : vx_Zq C n d B U H := ⟨va_Zq.narrow h.1 hAB, vx_L.narrow h.2 hAB⟩
theorem vx_Zqof {args : Array Value} {s : State} {C n d : String} {A : Nat → Prop} (hl : (Cond.laysStatic C n d).before args s = true) (hini : (Cond.initialized C).before args s = true) (h : (Cond.isRef (.static C n d)).before args s = true) (hA : ∀ a : Nat, a < s.heap.size → ¬ A a) : vx_Zq C n d A s s.heap := by
  refine ⟨va_Zqof hl hini h hA, ?_⟩
  obtain ⟨c, k, i, f, a, cell, h1, h2, h3, h4, h5, h6, h7, h8, h9⟩ := Cond.laysStatic_spec hl
  exact ⟨c, k, i, f, a, cell, h1, h2, h3, h4, h5, h6, h7, h8, h9, hA a (Array.getElem?_eq_some_iff.mp h5).1⟩
theorem vx_isRef {C n d : String} {v : Value} {A : Nat → Prop} {s : State} {args : Array Value} (h : va_Z C n d v A s s.heap) (hv : v.isRef = true) : (Cond.isRef (.static C n d)).before args s = true := by
  obtain ⟨cf, kf, fi, f, a, cell, h1, h2, h3, h4, h5, h6, h7, -⟩ := h
  have he : (Term.static C n d).eval args s none [] s = some v := by
    simp [Term.eval, State.fieldNamed?, h1, h2, h4, h5, h6, h7]
  simp only [Cond.before, Cond.holds, Cond.value, he]
  cases v <;> simp_all [Value.isRef]
theorem vx_isRefq {C n d : String} {A : Nat → Prop} {s : State} {args : Array Value} (h : va_Zq C n d A s s.heap) : (Cond.isRef (.static C n d)).before args s = true := by
  rcases h with h | ⟨t, h⟩
  · exact vx_isRef h rfl
  · exact vx_isRef h rfl
/-- the same frame, seen from here: as if the method were called anew in this heap -/
theorem vx_rebase {T : State} (X : Stand p l e R s m args below meth c T locs cells slots) {R' : Room} (hf : R'.frames ≤ R.frames) (hl : R'.locals ≤ R.locals) (hc : cells + R'.cells ≤ R.cells) (hs : slots + R'.slots ≤ R.slots) :
    Stand p l e R' ((T.setVm s.vm).setFrames (.invoking m args :: below)) m args below meth c T [] 0 0 := by
  have htop : (T.setVm s.vm).topJava?.isSome := X.here.top
  have hF : ((T.setVm s.vm).setFrames (.invoking m args :: below)).frames = .invoking m args :: below := State.frames_setFrames _ (State.cur_lt_of_top htop)
  obtain ⟨g₀, hg0⟩ := Option.isSome_iff_exists.mp htop
  obtain ⟨r, hr⟩ := State.topJava?_eq_some.mp hg0
  have hl9 : e.platform.stackLimits (T.setVm s.vm).me = e.platform.stackLimits s.me := X.limits
  have hb9 : (T.setVm s.vm).me.stackBytes = s.me.stackBytes := X.bytes
  refine ⟨X.admits, X.cas, X.clock, hF, ?_, X.hears, X.method, X.code, X.here, X.tail, X.warmed, ?_, ?_, ?_⟩
  · have h := X.room
    have hU : ((T.setVm s.vm).setFrames (.invoking m args :: below)).localsInUse = s.localsInUse := by
      rw [State.localsInUse_invoking hF (meth := meth) (c := c) X.method X.code, State.localsInUse_invoking X.frames X.method X.code]
    simp only [State.hasRoom, Bool.and_eq_true, decide_eq_true_eq] at h ⊢
    obtain ⟨⟨⟨⟨h1, h2, h3, h4, h5, h6⟩, h7⟩, h8⟩, h9⟩ := h
    rw [X.frames, List.length_cons] at h2 h3
    have q1 := X.heapSize
    have q2 := X.used
    simp only [hF, hU, List.length_cons, State.stackLimits_setFrames, State.stackBytes_setFrames, hl9, hb9]
    refine ⟨⟨⟨⟨by omega, by omega, by omega, by omega, by omega, h6⟩, ?_⟩, ?_⟩, X.book⟩
    · show T.heap.size + R'.cells ≤ e.platform.maxCells
      omega
    · show T.slotsUsed + R'.slots ≤ e.platform.maxSlots
      omega
  · rw [State.stackLimits_setFrames]; rfl
  · rw [State.stackBytes_setFrames]; rfl
  · refine ⟨?_, Nat.le_refl _, Nat.le_refl _, ?_, ?_, fun a c9 h9 => ⟨c9, h9, rfl, rfl, fun _ _ => rfl⟩⟩
    · obtain ⟨t, ht, -⟩ := State.frames_cons hr
      show T.setVm s.vm = { ((T.setVm s.vm).setFrames (.invoking m args :: below)).setFrames (T.setVm s.vm).frames with heap := T.heap, slotsUsed := T.slotsUsed }
      rw [State.setFrames_setFrames, State.setFrames_self ht]
      rfl
    · show T.slotsUsed = T.slotsUsed + ((T.heap.toList.drop T.heap.size).map (·.slots.size)).sum
      rw [List.drop_eq_nil_of_le (Nat.le_of_eq Array.length_toList)]
      rfl
    · show ((T.heap.toList.drop T.heap.size).map (·.slots.size)).sum ≤ 0
      rw [List.drop_eq_nil_of_le (Nat.le_of_eq Array.length_toList)]
      exact Nat.le_refl _
/-- 'throw new E()': new; dup; invokespecial; athrow -/
theorem vx_throw0 {cc : ByteArray} {pc : Nat} (hexec : p.tables.exec = Jvm.exec) (hb : c.code = cc) (hl : l.stackTraces = false) {own cls : String} {names : List String} {ik ic mc ms : Nat} {A : Nat → Prop}
    (hown : s.vm.findClass own = some m.cls) (hcls : Bundle.fit cls = true) (hnames : ∀ n ∈ names, Bundle.fit n = true)
    (hk : (Cond.classLink own ik cls).before args s = true) (hini : (Cond.initialized cls).before args s = true) (hat : ∀ w ∈ vx_at0 own ic cls names, w.before args s = true)
    (hgood : ∀ w ∈ Cond.classLink own ik cls :: Cond.initialized cls :: vx_at0 own ic cls names, vx_ot w = true)
    (hU : vx_Zq Bundle.tN "UNASSIGNED_STACK" Bundle.steD A s s.heap) (hN : vx_Zq Bundle.tN "SUPPRESSED_SENTINEL" Bundle.listD A s s.heap) (hS : va_S A s.heap H locs) (hsize : ls.size = c.maxLocals)
    (d0 : decode cc pc = .ok (.new ik, 3)) (d3 : decode cc (pc + 3) = .ok (.dup, 1)) (d4 : decode cc (pc + 4) = .ok (.invokespecial ic, 3)) (d7 : decode cc (pc + 7) = .ok (.athrow, 1))
    (hout : ∀ x ∈ c.exceptionTable.toList, covers x (pc + 7) = false)
    (hRframes : names.length + 3 < R.frames) (hRlocals : (rest.map fun v => v.category).sum + (13 * (names.length + 1) + 42) ≤ R.locals) (hRcells : cells + 1 ≤ R.cells) (hRslots : slots + 6 ≤ R.slots) (hlocks : meth.locks = false)
    (hx : ∀ t : State, s.vm.Alike t.vm → H.size ≤ t.heap.size → (∀ q : Nat, q < H.size → t.heap[q]? = H[q]?) → XC cls s t)
    (hf : ∀ z ∈ locs, free z.base) (hc : cells + 1 ≤ mc) (hs : slots + 6 ≤ ms) :
    W p l e R s m args below meth c H locs cells slots (vx_MQ below Qc XC args s mc ms free) (F0 m pc ls rest) := by
  intro T hT X
  have htr : e.platform.stackTraces = false := (show e.platform.stackTraces = l.stackTraces by rw [X.admits.platform]).trans hl
  have Y := vx_rebase X (R' := { frames := R.frames, locals := R.locals, cells := 1, slots := 6 }) (Nat.le_refl _) (Nat.le_refl _) hRcells hRslots
  obtain ⟨s', hA⟩ : ∃ z, z = (T.setVm s.vm).setFrames (.invoking m args :: below) := ⟨_, rfl⟩
  rw [← hA] at Y
  have hvm : s'.vm = s.vm := by rw [hA]; rfl
  have hhp : s'.heap = H := by rw [hA]; exact hT
  have hW0 : s.WarmedH s'.vm := by rw [hvm]; exact State.WarmedH.refl s
  have hat' : ∀ w ∈ vx_at0 own ic cls names, w.before args s' = true := fun w hw => vx_ot_at hW0 hvm.symm (hgood w (List.mem_cons_of_mem _ (List.mem_cons_of_mem _ hw))) (hat w hw)
  have hk' : (Cond.classLink own ik cls).before args s' = true := vx_ot_at hW0 hvm.symm (hgood _ List.mem_cons_self) hk
  have hini' : (Cond.initialized cls).before args s' = true := vx_ot_at hW0 hvm.symm (hgood _ (List.mem_cons_of_mem _ List.mem_cons_self)) hini
  have hU' : vx_Zq Bundle.tN "UNASSIGNED_STACK" Bundle.steD A s' s'.heap := by rw [hhp]; exact vx_Zq.moved hW0.alike (hU.kept hS.2.1)
  have hN' : vx_Zq Bundle.tN "SUPPRESSED_SENTINEL" Bundle.listD A s' s'.heap := by rw [hhp]; exact vx_Zq.moved hW0.alike (hN.kept hS.2.1)
  have h : ∀ w ∈ Bundle.ownAtoms0 own ic cls names, w.before args s' = true := vx_own hat' (vx_isRefq hU'.1) (vx_isRefq hN'.1) hU'.2.word hN'.2.word
  have hown' : s'.vm.findClass own = some m.cls := by rw [hvm]; exact hown
  have hins : (Cond.instantiable cls 6).before args s' = true := h _ (by simp [Bundle.ownAtoms0])
  obtain ⟨vm₁, cX, kX, hfX, hkX, -, -, X₁, st1⟩ := Y.newCold hexec (own := own) (C := cls) (index := ik) (n := 6) hown' hk' hins hini'
    (g := F0 m pc ls rest) rfl (by rw [hb]; exact d0) (Nat.le_refl _) (Nat.le_refl _)
  generalize hT1 : (T.setVm vm₁).pushCell { cls := cX, slots := kX.instanceTypes.map defaultValue, vm := .none } = T1 at X₁ st1
  have hcat : (Value.ref T.heap.size).category = 1 := rfl
  have hcellA : T1.heap[T.heap.size]? = some (freshCell cX kX) := by rw [← hT1]; exact State.heap_pushCell_size _ _
  have d3' : decode c.code (pc + 3) = .ok (.dup, 1) := by rw [hb]; exact d3
  obtain ⟨U, hsteps, hrun, hend, hW, hsame, ce, hce, hO⟩ := X₁.ctorThrow0 hexec htr (own := own) (cls := cls) (names := names) (ic := ic) hown' hcls hnames h (fun x hx => nomatch hx) hfX hkX hcellA (by rw [hhp, hT]; exact Nat.le_refl _)
    (g := { method := m, pc := pc + 4, locals := ls, stack := .ref T.heap.size :: .ref T.heap.size :: rest, locked := none }) rfl hsize rfl rfl (rest := rest) rfl
    (by rw [hb]; exact d4) (by rw [hb]; exact d7) hout hRframes (by simp only [List.map_cons, List.sum_cons, hcat]; omega) hlocks
  obtain ⟨f1, f2⟩ := vx_frame hsame
  rw [hhp] at f1 f2
  have hWs : s.WarmedH U.vm := State.WarmedH.trans hW0 hW
  have hcl : s.vm.findClass cls = some ce.cls := by
    have h9 := hO.cls
    rw [hvm] at h9
    exact h9
  have hall : s.sameButNew ({ U with vm := s.vm } : State) locs mc ms := by
    subst hA
    obtain ⟨e1, e2⟩ := hsame
    rw [State.setFrames_setFrames] at e1
    have h2 : (T.setVm s.vm).sameButNew ({ U with vm := s.vm } : State) [] (0 + 1) (0 + 6) := ⟨e1, e2⟩
    have h3 := X.same.trans h2
    rw [List.append_nil] at h3
    exact h3.mono hc hs
  refine ⟨U, ?_, .threw T.heap.size, hrun, hend, Or.inr ⟨T.heap.size, rfl, cls, ce, locs, hx U hWs.alike f1 (fun q hq => f2 q hq (fun z hz => nomatch hz)), hce, hO.vm, hcl, hWs, hall, hf⟩⟩
  refine st1 _ ?_
  show Steps p.tables e below (T1.setTop { method := m, pc := pc + 3, locals := ls, stack := .ref T.heap.size :: rest, locked := none }) _
  jvm_step X₁.here [X₁.here.top, hexec, d3', Value.category]
  exact hsteps
/-- 'throw new E("text")': new; dup; ldc; invokespecial; athrow -/
theorem vx_throwS {cc : ByteArray} {pc : Nat} (hexec : p.tables.exec = Jvm.exec) (hb : c.code = cc) (hl : l.stackTraces = false) {own cls text : String} {names : List String} {ik is ic mc ms sa : Nat} {A : Nat → Prop}
    (hown : s.vm.findClass own = some m.cls) (hcls : Bundle.fit cls = true) (hnames : ∀ n ∈ names, Bundle.fit n = true)
    (hk : (Cond.classLink own ik cls).before args s = true) (hini : (Cond.initialized cls).before args s = true) (hstr : vk_R own is text sa s) (hat : ∀ w ∈ vx_atS own ic cls names, w.before args s = true)
    (hgood : ∀ w ∈ Cond.classLink own ik cls :: Cond.initialized cls :: vx_atS own ic cls names, vx_ot w = true)
    (hU : vx_Zq Bundle.tN "UNASSIGNED_STACK" Bundle.steD A s s.heap) (hN : vx_Zq Bundle.tN "SUPPRESSED_SENTINEL" Bundle.listD A s s.heap) (hS : va_S A s.heap H locs) (hsize : ls.size = c.maxLocals)
    (d0 : decode cc pc = .ok (.new ik, 3)) (d3 : decode cc (pc + 3) = .ok (.dup, 1)) (d4 : decode cc (pc + 4) = .ok (.ldc is, 2)) (d6 : decode cc (pc + 6) = .ok (.invokespecial ic, 3)) (d9 : decode cc (pc + 9) = .ok (.athrow, 1))
    (hout : ∀ x ∈ c.exceptionTable.toList, covers x (pc + 9) = false)
    (hRframes : names.length + 3 < R.frames) (hRlocals : (rest.map fun v => v.category).sum + (13 * (names.length + 1) + 43) ≤ R.locals) (hRcells : cells + 1 ≤ R.cells) (hRslots : slots + 6 ≤ R.slots) (hlocks : meth.locks = false)
    (hx : ∀ t : State, s.vm.Alike t.vm → H.size ≤ t.heap.size → (∀ q : Nat, q < H.size → t.heap[q]? = H[q]?) → XC cls s t)
    (hf : ∀ z ∈ locs, free z.base) (hc : cells + 1 ≤ mc) (hs : slots + 6 ≤ ms) :
    W p l e R s m args below meth c H locs cells slots (vx_MQ below Qc XC args s mc ms free) (F0 m pc ls rest) := by
  intro T hT X
  have htr : e.platform.stackTraces = false := (show e.platform.stackTraces = l.stackTraces by rw [X.admits.platform]).trans hl
  have Y := vx_rebase X (R' := { frames := R.frames, locals := R.locals, cells := 1, slots := 6 }) (Nat.le_refl _) (Nat.le_refl _) hRcells hRslots
  obtain ⟨s', hA⟩ : ∃ z, z = (T.setVm s.vm).setFrames (.invoking m args :: below) := ⟨_, rfl⟩
  rw [← hA] at Y
  have hvm : s'.vm = s.vm := by rw [hA]; rfl
  have hhp : s'.heap = H := by rw [hA]; exact hT
  have hW0 : s.WarmedH s'.vm := by rw [hvm]; exact State.WarmedH.refl s
  have hat' : ∀ w ∈ vx_atS own ic cls names, w.before args s' = true := fun w hw => vx_ot_at hW0 hvm.symm (hgood w (List.mem_cons_of_mem _ (List.mem_cons_of_mem _ hw))) (hat w hw)
  have hk' : (Cond.classLink own ik cls).before args s' = true := vx_ot_at hW0 hvm.symm (hgood _ List.mem_cons_self) hk
  have hini' : (Cond.initialized cls).before args s' = true := vx_ot_at hW0 hvm.symm (hgood _ (List.mem_cons_of_mem _ List.mem_cons_self)) hini
  have hU' : vx_Zq Bundle.tN "UNASSIGNED_STACK" Bundle.steD A s' s'.heap := by rw [hhp]; exact vx_Zq.moved hW0.alike (hU.kept hS.2.1)
  have hN' : vx_Zq Bundle.tN "SUPPRESSED_SENTINEL" Bundle.listD A s' s'.heap := by rw [hhp]; exact vx_Zq.moved hW0.alike (hN.kept hS.2.1)
  have h : ∀ w ∈ Bundle.ownAtoms own ic cls names, w.before args s' = true := vx_own hat' (vx_isRefq hU'.1) (vx_isRefq hN'.1) hU'.2.word hN'.2.word
  have hown' : s'.vm.findClass own = some m.cls := by rw [hvm]; exact hown
  have hins : (Cond.instantiable cls 6).before args s' = true := h _ (by simp [Bundle.ownAtoms])
  obtain ⟨vm₁, cX, kX, hfX, hkX, -, -, X₁, st1⟩ := Y.newCold hexec (own := own) (C := cls) (index := ik) (n := 6) hown' hk' hins hini'
    (g := F0 m pc ls rest) rfl (by rw [hb]; exact d0) (Nat.le_refl _) (Nat.le_refl _)
  generalize hT1 : (T.setVm vm₁).pushCell { cls := cX, slots := kX.instanceTypes.map defaultValue, vm := .none } = T1 at X₁ st1
  have hcat : (Value.ref T.heap.size).category = 1 := rfl
  have hcellA : T1.heap[T.heap.size]? = some (freshCell cX kX) := by rw [← hT1]; exact State.heap_pushCell_size _ _
  have d3' : decode c.code (pc + 3) = .ok (.dup, 1) := by rw [hb]; exact d3
  have d4' : decode c.code (pc + 4) = .ok (.ldc is, 2) := by rw [hb]; exact d4
  have hstr' : vk_R own is text sa s' := vk_R.warm hW0 hstr
  obtain ⟨U, hsteps, hrun, hend, hW, hsame, ce, hce, hO⟩ := X₁.ctorThrowS hexec htr (own := own) (cls := cls) (names := names) (ic := ic) hown' hcls hnames h (fun x hx => nomatch hx) hfX hkX hcellA (by rw [hhp, hT]; exact Nat.le_refl _) (msg := .ref sa) rfl
    (g := { method := m, pc := pc + 6, locals := ls, stack := .ref sa :: .ref T.heap.size :: .ref T.heap.size :: rest, locked := none }) rfl hsize rfl rfl (rest := rest) rfl
    (by rw [hb]; exact d6) (by rw [hb]; exact d9) hout hRframes (by simp only [List.map_cons, List.sum_cons, hcat]; omega) hlocks
  obtain ⟨f1, f2⟩ := vx_frame hsame
  rw [hhp] at f1 f2
  have hWs : s.WarmedH U.vm := State.WarmedH.trans hW0 hW
  have hcl : s.vm.findClass cls = some ce.cls := by
    have h9 := hO.cls
    rw [hvm] at h9
    exact h9
  have hall : s.sameButNew ({ U with vm := s.vm } : State) locs mc ms := by
    subst hA
    obtain ⟨e1, e2⟩ := hsame
    rw [State.setFrames_setFrames] at e1
    have h2 : (T.setVm s.vm).sameButNew ({ U with vm := s.vm } : State) [] (0 + 1) (0 + 6) := ⟨e1, e2⟩
    have h3 := X.same.trans h2
    rw [List.append_nil] at h3
    exact h3.mono hc hs
  refine ⟨U, ?_, .threw T.heap.size, hrun, hend, Or.inr ⟨T.heap.size, rfl, cls, ce, locs, hx U hWs.alike f1 (fun q hq => f2 q hq (fun z hz => nomatch hz)), hce, hO.vm, hcl, hWs, hall, hf⟩⟩
  refine st1 _ ?_
  show Steps p.tables e below (T1.setTop { method := m, pc := pc + 3, locals := ls, stack := .ref T.heap.size :: rest, locked := none }) _
  jvm_step X₁.here [X₁.here.top, hexec, d3', Value.category]
  exact X₁.ldcString hexec (own := own) (text := text) (index := is) (a := sa) hown' hstr'.1 hstr'.2
    (g := { method := m, pc := pc + 4, locals := ls, stack := .ref T.heap.size :: .ref T.heap.size :: rest, locked := none }) rfl d4' _ hsteps
/-- 'throw new E("text")', the text by a wide index -/
theorem vx_throwSW {cc : ByteArray} {pc : Nat} (hexec : p.tables.exec = Jvm.exec) (hb : c.code = cc) (hl : l.stackTraces = false) {own cls text : String} {names : List String} {ik is ic mc ms sa : Nat} {A : Nat → Prop}
    (hown : s.vm.findClass own = some m.cls) (hcls : Bundle.fit cls = true) (hnames : ∀ n ∈ names, Bundle.fit n = true)
    (hk : (Cond.classLink own ik cls).before args s = true) (hini : (Cond.initialized cls).before args s = true) (hstr : vk_R own is text sa s) (hat : ∀ w ∈ vx_atS own ic cls names, w.before args s = true)
    (hgood : ∀ w ∈ Cond.classLink own ik cls :: Cond.initialized cls :: vx_atS own ic cls names, vx_ot w = true)
    (hU : vx_Zq Bundle.tN "UNASSIGNED_STACK" Bundle.steD A s s.heap) (hN : vx_Zq Bundle.tN "SUPPRESSED_SENTINEL" Bundle.listD A s s.heap) (hS : va_S A s.heap H locs) (hsize : ls.size = c.maxLocals)
    (d0 : decode cc pc = .ok (.new ik, 3)) (d3 : decode cc (pc + 3) = .ok (.dup, 1)) (d4 : decode cc (pc + 4) = .ok (.ldc_w is, 3)) (d7 : decode cc (pc + 7) = .ok (.invokespecial ic, 3)) (d10 : decode cc (pc + 10) = .ok (.athrow, 1))
    (hout : ∀ x ∈ c.exceptionTable.toList, covers x (pc + 10) = false)
    (hRframes : names.length + 3 < R.frames) (hRlocals : (rest.map fun v => v.category).sum + (13 * (names.length + 1) + 43) ≤ R.locals) (hRcells : cells + 1 ≤ R.cells) (hRslots : slots + 6 ≤ R.slots) (hlocks : meth.locks = false)
    (hx : ∀ t : State, s.vm.Alike t.vm → H.size ≤ t.heap.size → (∀ q : Nat, q < H.size → t.heap[q]? = H[q]?) → XC cls s t)
    (hf : ∀ z ∈ locs, free z.base) (hc : cells + 1 ≤ mc) (hs : slots + 6 ≤ ms) :
    W p l e R s m args below meth c H locs cells slots (vx_MQ below Qc XC args s mc ms free) (F0 m pc ls rest) := by
  intro T hT X
  have htr : e.platform.stackTraces = false := (show e.platform.stackTraces = l.stackTraces by rw [X.admits.platform]).trans hl
  have Y := vx_rebase X (R' := { frames := R.frames, locals := R.locals, cells := 1, slots := 6 }) (Nat.le_refl _) (Nat.le_refl _) hRcells hRslots
  obtain ⟨s', hA⟩ : ∃ z, z = (T.setVm s.vm).setFrames (.invoking m args :: below) := ⟨_, rfl⟩
  rw [← hA] at Y
  have hvm : s'.vm = s.vm := by rw [hA]; rfl
  have hhp : s'.heap = H := by rw [hA]; exact hT
  have hW0 : s.WarmedH s'.vm := by rw [hvm]; exact State.WarmedH.refl s
  have hat' : ∀ w ∈ vx_atS own ic cls names, w.before args s' = true := fun w hw => vx_ot_at hW0 hvm.symm (hgood w (List.mem_cons_of_mem _ (List.mem_cons_of_mem _ hw))) (hat w hw)
  have hk' : (Cond.classLink own ik cls).before args s' = true := vx_ot_at hW0 hvm.symm (hgood _ List.mem_cons_self) hk
  have hini' : (Cond.initialized cls).before args s' = true := vx_ot_at hW0 hvm.symm (hgood _ (List.mem_cons_of_mem _ List.mem_cons_self)) hini
  have hU' : vx_Zq Bundle.tN "UNASSIGNED_STACK" Bundle.steD A s' s'.heap := by rw [hhp]; exact vx_Zq.moved hW0.alike (hU.kept hS.2.1)
  have hN' : vx_Zq Bundle.tN "SUPPRESSED_SENTINEL" Bundle.listD A s' s'.heap := by rw [hhp]; exact vx_Zq.moved hW0.alike (hN.kept hS.2.1)
  have h : ∀ w ∈ Bundle.ownAtoms own ic cls names, w.before args s' = true := vx_own hat' (vx_isRefq hU'.1) (vx_isRefq hN'.1) hU'.2.word hN'.2.word
  have hown' : s'.vm.findClass own = some m.cls := by rw [hvm]; exact hown
  have hins : (Cond.instantiable cls 6).before args s' = true := h _ (by simp [Bundle.ownAtoms])
  obtain ⟨vm₁, cX, kX, hfX, hkX, -, -, X₁, st1⟩ := Y.newCold hexec (own := own) (C := cls) (index := ik) (n := 6) hown' hk' hins hini'
    (g := F0 m pc ls rest) rfl (by rw [hb]; exact d0) (Nat.le_refl _) (Nat.le_refl _)
  generalize hT1 : (T.setVm vm₁).pushCell { cls := cX, slots := kX.instanceTypes.map defaultValue, vm := .none } = T1 at X₁ st1
  have hcat : (Value.ref T.heap.size).category = 1 := rfl
  have hcellA : T1.heap[T.heap.size]? = some (freshCell cX kX) := by rw [← hT1]; exact State.heap_pushCell_size _ _
  have d3' : decode c.code (pc + 3) = .ok (.dup, 1) := by rw [hb]; exact d3
  have d4' : decode c.code (pc + 4) = .ok (.ldc_w is, 3) := by rw [hb]; exact d4
  have hstr' : vk_R own is text sa s' := vk_R.warm hW0 hstr
  obtain ⟨U, hsteps, hrun, hend, hW, hsame, ce, hce, hO⟩ := X₁.ctorThrowS hexec htr (own := own) (cls := cls) (names := names) (ic := ic) hown' hcls hnames h (fun x hx => nomatch hx) hfX hkX hcellA (by rw [hhp, hT]; exact Nat.le_refl _) (msg := .ref sa) rfl
    (g := { method := m, pc := pc + 7, locals := ls, stack := .ref sa :: .ref T.heap.size :: .ref T.heap.size :: rest, locked := none }) rfl hsize rfl rfl (rest := rest) rfl
    (by rw [hb]; exact d7) (by rw [hb]; exact d10) hout hRframes (by simp only [List.map_cons, List.sum_cons, hcat]; omega) hlocks
  obtain ⟨f1, f2⟩ := vx_frame hsame
  rw [hhp] at f1 f2
  have hWs : s.WarmedH U.vm := State.WarmedH.trans hW0 hW
  have hcl : s.vm.findClass cls = some ce.cls := by
    have h9 := hO.cls
    rw [hvm] at h9
    exact h9
  have hall : s.sameButNew ({ U with vm := s.vm } : State) locs mc ms := by
    subst hA
    obtain ⟨e1, e2⟩ := hsame
    rw [State.setFrames_setFrames] at e1
    have h2 : (T.setVm s.vm).sameButNew ({ U with vm := s.vm } : State) [] (0 + 1) (0 + 6) := ⟨e1, e2⟩
    have h3 := X.same.trans h2
    rw [List.append_nil] at h3
    exact h3.mono hc hs
  refine ⟨U, ?_, .threw T.heap.size, hrun, hend, Or.inr ⟨T.heap.size, rfl, cls, ce, locs, hx U hWs.alike f1 (fun q hq => f2 q hq (fun z hz => nomatch hz)), hce, hO.vm, hcl, hWs, hall, hf⟩⟩
  refine st1 _ ?_
  show Steps p.tables e below (T1.setTop { method := m, pc := pc + 3, locals := ls, stack := .ref T.heap.size :: rest, locked := none }) _
  jvm_step X₁.here [X₁.here.top, hexec, d3', Value.category]
  exact X₁.ldcStringW hexec (own := own) (text := text) (index := is) (a := sa) hown' hstr'.1 hstr'.2
    (g := { method := m, pc := pc + 4, locals := ls, stack := .ref T.heap.size :: .ref T.heap.size :: rest, locked := none }) rfl d4' _ hsteps
end Ends
section Bodies
variable {l : Launch}
theorem vx_ofW {y : MethodName} {ws ws' : List Cond} {rm : Room} {Pc : Array Value → State → Prop} {Qc : Array Value → State → Outcome → State → Prop} {XC : String → State → State → Prop} {mc ms : Nat} {free : Addr → Prop} {cc : ByteArray} {maxL : Nat} {ret : Option FieldType}
    (hy : plainName y.cls = true) (hw : ws = Cond.code y cc maxL ret :: ws')
    (body : ∀ p e s m args below meth c s₁, BodyLoose p l y (headSpec ws rm) cc maxL ret e s m args below meth c s₁ → c.maxLocals = maxL → (∀ x ∈ c.exceptionTable.toList, False) → Pc args s →
      W p l e (headSpec ws rm).room s m args below meth c s.heap [] 0 0 (vx_MQ below Qc XC args s mc ms free) (entryFrame m args maxL)) : vx_Met l y ws rm Pc Qc XC mc ms free := by
  refine MetFree.of_bodyS (code := cc) (maxLocals := maxL) (ret := ret) hy ?_ ?_
  · intro args s m h hn
    obtain ⟨meth, c, h1, h2, h3, h4, h5, h6, -, -⟩ := Cond.code_spec hn (atoms_spec (ws := ws) h _ (by rw [hw]; exact List.mem_cons_self))
    exact ⟨meth, c, h1, h2, h3, h4, h5, h6⟩
  · intro p e s m args below meth c s₁ B hml hP _
    have hh0 : s₁.heap = s.heap := by rw [B.state]; rfl
    have ht : ∀ x ∈ c.exceptionTable.toList, False := by
      obtain ⟨meth9, c9, h1, h2, -, -, -, -, h7, -⟩ := Cond.code_spec B.named (atoms_spec (ws := ws) B.pre _ (by rw [hw]; exact List.mem_cons_self))
      cases Option.some.inj (h1.symm.trans B.method)
      cases Option.some.inj (h2.symm.trans (Stand.of_body B).code)
      intro x hx
      rw [Array.isEmpty_iff.mp h7] at hx
      cases hx
    obtain ⟨t, a1, o, b1, b2, b3⟩ := body p e s m args below meth c s₁ B hml ht hP s₁ hh0 (Stand.of_body B)
    exact ⟨t, o, a1, b1, b2, b3⟩
/-- the table of a body with handlers -/
theorem vx_table {p : Program} {x y : MethodName} {S : Spec} {cc bytes : ByteArray} {maxL maxL' : Nat} {ret ret' : Option FieldType} {e : Env} {s s₁ : State} {m : MethodId} {args : Array Value} {below : List Frame} {meth : Method} {c : Code} {hh : List (Nat × Nat × Nat × Nat)}
    (B : BodyLoose p l y S cc maxL ret e s m args below meth c s₁) (h : (Cond.codeWith y bytes maxL' ret' hh).before args s = true) : c.exceptionTable.toList = tableOf hh := by
  obtain ⟨m9, meth9, c9, hn9, h1, h2, -, -, h6, -⟩ := Cond.codeWith_spec h
  cases Option.some.inj (hn9.symm.trans B.named)
  cases Option.some.inj (h1.symm.trans B.method)
  cases Option.some.inj (h2.symm.trans (Stand.of_body B).code)
  rw [← h6, table_eq]
end Bodies
end VXA
/-! ===== END ===== -/
/-! ===== BEGIN a static call of a method with an exception table ===== -/
section VXS
variable {p : Program} {l : Launch} {e : Env} {R : Room} {s : State} {m : MethodId} {args : Array Value} {below : List Frame} {meth : Method} {c : Code} {T : State} {H : Heap} {locs : List Loc} {cells slots : Nat}
abbrev vx_CSW (R : Room) (s : State) (args : Array Value) (own : String) (index : Nat) (y : MethodName) (bytes : ByteArray) (maxL : Nat) (ret : Option FieldType) (hh : List (Nat × Nat × Nat × Nat)) (ws : List Cond) (rm : Room) (mc ms n : Nat) : Prop :=
  (rm.cells = mc ∧ rm.slots = ms ∧ rm.frames + 1 ≤ R.frames ∧ 8 + (maxL + 11) + rm.locals ≤ R.locals ∧ (∀ w ∈ ws, ∀ (a' : Array Value) (U : State), s.WarmedH U.vm → w.before a' U = true) ∧ Cond.codeWith y bytes maxL ret hh ∈ ws) ∧
  (Cond.codeWith y bytes maxL ret hh).before args s = true ∧ (Cond.initialized y.cls).before args s = true ∧ (y.cls ≠ "java/lang/invoke/MethodHandle" ∧ y.cls ≠ "java/lang/invoke/VarHandle") ∧
  (∀ sig, parseMethodDescriptor y.desc = some sig → n = sig.parameters.length) ∧ (Cond.methodLink own index y).before args s = true ∧ (Cond.static y).before args s = true
theorem vx_cwSW {own : String} {index maxL mc ms : Nat} {y : MethodName} {bytes : ByteArray} {ret : Option FieldType} {hh : List (Nat × Nat × Nat × Nat)} {Ts ws ws' : List Cond} {rm : Room} (n : Nat) (ht : ∀ w ∈ Ts, w.before args s = true) (hT : GoodIn Ts (va_wsS own index y ws)) (hw : ws = Cond.codeWith y bytes maxL ret hh :: ws') (hrc : rm.cells = mc) (hrs : rm.slots = ms)
    (hd : y.cls ≠ "java/lang/invoke/MethodHandle" ∧ y.cls ≠ "java/lang/invoke/VarHandle" ∧ (parseMethodDescriptor y.desc).map (fun d => d.parameters.length) = some n) (hR : rm.frames + 1 ≤ R.frames ∧ 8 + (maxL + 11) + rm.locals ≤ R.locals) :
    vx_CSW R s args own index y bytes maxL ret hh ws rm mc ms n := by
  have ok : ∀ w ∈ va_wsS own index y ws, w.before args s = true := fun w h => ht w (hT w h).1
  have hG : GoodIn Ts ws := fun w h => hT w (by unfold va_wsS; exact List.mem_append_right _ h)
  have hc : Cond.codeWith y bytes maxL ret hh ∈ ws := by rw [hw]; exact List.mem_cons_self
  refine ⟨⟨hrc, hrs, hR.1, hR.2, pay_in ht hG, hc⟩, ht _ (hG _ hc).1, ok _ (by simp [va_wsS]), ⟨hd.1, hd.2.1⟩, fun sig h => ?_, ok _ (by simp [va_wsS]), ok _ (by simp [va_wsS])⟩
  have h2 := hd.2.2
  rw [h] at h2
  exact (Option.some.inj h2).symm
theorem vx_callSW (X : Stand p l e R s m args below meth c T locs cells slots) (hexec : p.tables.exec = Jvm.exec) {own : String} {index : Nat} {y : MethodName} {bytes : ByteArray} {maxL : Nat} {ret : Option FieldType} {hh : List (Nat × Nat × Nat × Nat)}
    (hown : s.vm.findClass own = some m.cls) (hlink : (Cond.methodLink own index y).before args s = true) (hstat : (Cond.static y).before args s = true) (hinit : (Cond.initialized y.cls).before args s = true)
    (hcode : (Cond.codeWith y bytes maxL ret hh).before args s = true) (hy : y.cls ≠ "java/lang/invoke/MethodHandle" ∧ y.cls ≠ "java/lang/invoke/VarHandle")
    {W9 : Nat} {Pre : Pt → Array Value → Prop} {Post : Pt → Array Value → Option Value → Pt → Prop} (hK : Back l R p e below s args y 3 W9 Pre Post)
    {g : JFrame} (hg : g.method = m) (hsize : g.locals.size = c.maxLocals) {argsL rest : List Value} (hlen : ∀ sig, parseMethodDescriptor y.desc = some sig → argsL.length = sig.parameters.length)
    (hstack : g.stack = argsL.reverse ++ rest) (hW : 2 * g.monitorRoom + (rest.map fun v => v.category).sum ≤ W9) (hdg : decode c.code g.pc = .ok (.invokestatic index, 3))
    (hpre : ∀ vm₁, s.WarmedH vm₁ → Pre ⟨T.setVm vm₁, locs, cells, slots⟩ argsL.toArray) :
    ∃ (v : Option Value) (vm₁ : Vm) (B : Pt), s.WarmedH vm₁ ∧ Stand p l e R s m args below meth c B.U B.locs B.cells B.slots ∧ Post ⟨T.setVm vm₁, locs, cells, slots⟩ argsL.toArray v B ∧
      ∀ target, Steps p.tables e below (B.U.setTop { g with pc := g.pc + 3, stack := v.toList ++ rest }) target → Steps p.tables e below (T.setTop g) target := by
  obtain ⟨mk, methM, cM, hnamed, hmethM, -, -, -, -, -, -, hsigM⟩ := Cond.codeWith_spec hcode
  have hstatic : methM.isStatic = true := Cond.static_spec hnamed hmethM hstat
  obtain ⟨kP, hkP, -⟩ := className_of_methodNamed hnamed
  have hinitP : kP.init = .initialized := Cond.initialized_spec (findClass_of_methodNamed hnamed) hkP hinit
  obtain ⟨vm₁, X₁, hstep₁⟩ := X.invokestatic hexec hown hlink hnamed hmethM hstatic hkP hinitP hy (g := g) hg (argsL := argsL) (rest := rest) (hlen _ hsigM) hstack hdg
  obtain ⟨v, B, X', hpost, hsteps⟩ := hK m meth c ⟨T.setVm vm₁, locs, cells, slots⟩ { g with stack := rest } (.invokestatic index) mk argsL.toArray X₁ hg hsize hdg hW (X₁.named hnamed) (hpre vm₁ X₁.warmed)
  exact ⟨v, vm₁, B, X₁.warmed, X', hpost, fun target h => hstep₁ _ fun acts => by rw [doInvoke_state]; exact hsteps.trans h⟩
theorem vx_runSW {y : MethodName} {bytes cc : ByteArray} {maxL nL mc ms n index : Nat} {ret : Option FieldType} {hh : List (Nat × Nat × Nat × Nat)} {ws : List Cond} {rm : Room} {Pc : Array Value → State → Prop} {Qc : Array Value → State → Outcome → State → Prop} {free : Addr → Prop} {Ts : List Cond} {own : String} {As rest : List Value} {g : JFrame}
    (S : CallFix p m c cc nL s args Ts own) (hM : Met l y ws rm Pc Qc mc ms free) (cw : vx_CSW R s args own index y bytes maxL ret hh ws rm mc ms n) (hp : PreS s H Pc As)
    (hg : g.method = m) (hn : As.length = n) (hsize : g.locals.size = nL) (hstack : g.stack = As.reverse ++ rest) (hW : 2 * g.monitorRoom + (rest.map fun v => v.category).sum ≤ 8) (hdg : decode cc g.pc = .ok (.invokestatic index, 3)) (hf : cells + mc ≤ R.cells ∧ slots + ms ≤ R.slots) :
    va_Run p l e R s m args below meth c H locs cells slots mc ms g rest (Qc As.toArray) (free) := by
  obtain ⟨⟨hrc, hrs, hfr, hlo, hws, hcw⟩, hcode, hini, hy, hlen, hl, hstt⟩ := cw
  have hK : Back l R p e below s args y 3 8 (PreOf R mc ms Pc) (PostOf Qc mc ms free) := va_backW (hh := hh) (bytes := bytes) (maxL := maxL) (ret := ret) hM hp.1 hrc hrs hfr hlo hws hcw (fun a' U hW => word_at hW (Or.inl (by first | rfl | simp [Cond.onTables, Cond.keeps, Cond.steady])) hini)
  obtain ⟨hx, hb, hml, ho, -⟩ := S
  intro T hT X
  obtain ⟨v, vm₁, ⟨U', l2, c2, s2⟩, hW₁, X', ⟨g', mk, t, L, e1, e2, hq, h1, hL, h2, h3⟩, st⟩ := vx_callSW X hx (hh := hh) (bytes := bytes) (maxL := maxL) (ret := ret) ho hl hstt hini hcode hy hK hg (hsize.trans hml.symm) (argsL := As) (rest := rest) (fun sig h => hn.trans (hlen sig h)) hstack hW (by rw [hb]; exact hdg)
    (fun vm₁ hW₁ => ⟨hf.1, hf.2, hp.2 (T.setVm vm₁) hT hW₁⟩)
  dsimp only [Pt.U, Pt.locs, Pt.cells, Pt.slots] at X' e1 e2 h1 h2 h3 st
  subst h1; subst h2; subst h3
  exact ⟨v, (T.setVm vm₁).calling g' mk As.toArray, t, U', L, hT, X', hL, e1, e2, hq, st⟩
/-- not caught here, past rows that name other classes: it goes on to the caller -/
theorem vx_outP {p : Program} {l : Launch} {e : Env} {R : Room} {s : State} {m : MethodId} {args : Array Value} {below : List Frame} {meth : Method} {c : Code} {H : Heap} {locs : List Loc} {cells slots : Nat} {free : Addr → Prop} {ls : Array Slot} {rest : List Value} {Qc : Array Value → State → Outcome → State → Prop} {XC : String → State → State → Prop}
    {pc : Nat} {own E : String} {ce : Cell} {q : Addr} {mc ms : Nat} (hown : s.vm.findClass own = some m.cls) (hlocks : meth.locks = false)
    (hpass : ∀ z ∈ c.exceptionTable.toList, covers z pc = false ∨ (z.catchType ≠ 0 ∧ ∃ nm : String, (Cond.classLink own z.catchType nm).before args s = true ∧ va_Nc E nm s)) (hcell : H[q]? = some ce) (hv : ce.vm = .none) (hcl : s.vm.findClass E = some ce.cls)
    (hx : ∀ t : State, t.heap = H → s.vm.Alike t.vm → XC E s t) (hf : ∀ z ∈ locs, free z.base) (hc : cells ≤ mc) (hs : slots ≤ ms) :
    vx_W p l e R s m args below meth c H locs cells slots (vx_MQ below Qc XC args s mc ms free) (F0 m pc ls rest) q := by
  intro T hT X
  have hpl : e.platform.magicAccessors = ({} : Platform).magicAccessors := by rw [X.admits.platform]
  obtain ⟨vm', hW', X', st⟩ := X.outThrough hlocks q (g := F0 m pc ls rest) rfl rfl rfl (cell := ce) (by rw [hT]; exact hcell) (by rw [hv]; rfl)
    (by obtain ⟨k9, h9, -⟩ := Vm.findClass_spec hcl; exact ⟨k9, h9⟩) (fun z hz => by
      rcases hpass z hz with h | ⟨hz0, nm, hl1, hn1⟩
      · exact Or.inl h
      · obtain ⟨c6, hc6, hcl6⟩ := Cond.classLink_spec hown hl1 e.platform hpl
        obtain ⟨a8, b8, h1, h2, h3⟩ := hn1
        cases Option.some.inj (h1.symm.trans hcl)
        cases Option.some.inj (h2.symm.trans hc6)
        exact Or.inr ⟨hz0, _, hcl6, h3⟩)
  obtain ⟨g₀, hfr⟩ := X'.frames_eq
  have hcell9 : ((T.setVm vm').setFrames (.throwing q :: below)).heap[q]? = some ce := by
    show T.heap[q]? = some ce
    rw [hT]; exact hcell
  have hend : Ended ((T.setVm vm').setFrames (.throwing q :: below)) below (.threw q) := State.frames_setFrames _ (State.cur_lt_of_frames hfr)
  refine ⟨(T.setVm vm').setFrames (.throwing q :: below), ?_, .threw q, X'.here.running, hend, Or.inr ⟨q, rfl, E, ce, locs, hx _ hT (X'.ends _).1.alike, hcell9, hv, hcl, (X'.ends _).1, (X'.ends _).2.mono hc hs, hf⟩⟩
  rw [X.pushThrowing_eq]
  exact st
/-- a thing of a world lies in the heap -/
theorem vx_lt {D : va_G} {cl : List vw_C} {ws : va_W} {H1 : Heap} (h : va_P D cl ws H1) {k : Nat} {q : Nat × va_E} (hk : ws[k]? = some q) : q.1 < H1.size := (h k q hk).lt
end VXS
/-! ===== END ===== -/
/-! ===== BEGIN methods with a table of their own: called by a name, returning or throwing ===== -/
section VXH
/-! vx_backW, vx_callVX, vx_callSX, vx_callVW, vx_runVW, vx_runVX, vx_runSX, vx_ofWH follow the same proofs as their sisters above (Free/Laws.lean, Shelf42/LK1.lean); vx_outP calls Shelf42/NT130.lean (outThrough). -/
section
variable {l : Launch} {R : Room} {p : Program} {e : Env} {below : List Frame} {s : State} {sargs : Array Value} {y : MethodName} {len W9 : Nat}
theorem vx_backW {ws : List Cond} {rm : Room} {Pc : Array Value → State → Prop} {Qc : Array Value → State → Outcome → State → Prop} {XC : String → State → State → Prop} {mc ms : Nat} {free : Addr → Prop} {bytes : ByteArray} {maxL : Nat} {ret : Option FieldType} {hh : List (Nat × Nat × Nat × Nat)}
    (hM : vx_Met l y ws rm Pc Qc XC mc ms free) (hblind : FrameBlind Pc) (hrc : rm.cells = mc) (hrs : rm.slots = ms)
    (hframes : rm.frames + 1 ≤ R.frames) (hlocals : W9 + (maxL + 11) + rm.locals ≤ R.locals)
    (hws : ∀ w ∈ ws, ∀ a' U, s.WarmedH U.vm → w.before a' U = true) (hcode : Cond.codeWith y bytes maxL ret hh ∈ ws) (hinit : ∀ a' U, s.WarmedH U.vm → (Cond.initialized y.cls).before a' U = true) :
    vx_Back l R p e below s sargs y len W9 (PreOf R mc ms Pc) (PostOf Qc mc ms free) (vx_Post XC mc ms free) := by
  intro m meth c A g ig mk a X hg hsize hdg hW hn hp
  have h1 : (headSpec ws rm).pre.before a A.U = true := atoms_intro fun w hw => hws w hw _ _ X.warmed
  have h2 : (Cond.codeWith y bytes maxL ret hh).before a A.U = true := hws _ hcode _ _ X.warmed
  have h3 : (Cond.initialized y.cls).before a A.U = true := hinit _ _ X.warmed
  have h4 : A.cells + (headSpec ws rm).room.cells ≤ R.cells := by rw [show (headSpec ws rm).room.cells = mc from hrc]; exact hp.1
  have h5 : A.slots + (headSpec ws rm).room.slots ≤ R.slots := by rw [show (headSpec ws rm).room.slots = ms from hrs]; exact hp.2.1
  have hPc : Pc a (A.U.calling g mk a) := hblind _ _ _ _ hp.2.2
  obtain ⟨U, Ls, c0, s0⟩ := A
  dsimp only [Pt.U, Pt.locs, Pt.cells, Pt.slots] at h1 h2 h3 h4 h5 X hn hPc ⊢
  obtain ⟨m9, methY, cY, hn9, hmY, hcY, -, hlY, -⟩ := Cond.codeWith_spec h2
  cases Option.some.inj (hn9.symm.trans hn)
  obtain ⟨kY, hkY, -⟩ := className_of_methodNamed hn
  have hinitY : kY.init = .initialized := Cond.initialized_spec (findClass_of_methodNamed hn) hkY h3
  have h : At U g.method c below := by rw [hg]; exact X.here
  have hlocals9 : W9 + (maxL + 11) + (headSpec ws rm).room.locals ≤ R.locals := hlocals
  have happ : (headSpec ws rm).appliesLoose y e.platform (U.calling g mk a) = true :=
    Spec.appliesLoose_calling (g := g) h hdg hn hkY hinitY
      (X.room_calling (g := g) (R' := (headSpec ws rm).room) hsize hmY hcY hframes (by rw [hlY]; omega) h4 h5) h1
  obtain ⟨mid, hmid⟩ := h.above
  have hfr : (U.setTop g).frames = (.java g :: mid) ++ below := by rw [State.frames_setTop' g h.top, hmid]; rfl
  obtain ⟨o, s₂, hsteps, -, hend, hq⟩ := Steps.callFree hM p X.admits X.cas X.clock (acts := []) hfr happ hPc trivial
  have hq' : vx_Q Qc XC mc ms free a (U.calling g mk a) o s₂ := hq
  rw [State.frames_setTop' g h.top] at hend
  obtain ⟨g₀, hg0⟩ := Option.isSome_iff_exists.mp h.top
  obtain ⟨r, hr⟩ := State.topJava?_eq_some.mp hg0
  have hr' : (({ U with heap := s₂.heap, slotsUsed := s₂.slotsUsed } : State).setVm s₂.vm).frames = .java g₀ :: r := hr
  rcases hq' with ⟨hqc, L, hfe, hL⟩ | ⟨q, rfl, E, ce, L, hx, hce, hcv, hcl, hW₂, hsm, hL⟩
  · obtain ⟨⟨v, rfl⟩, hW₂, e2, q2, q3, q4, q5, q6⟩ := id hfe
    have e3 : s₂ = ({ (U.calling g mk a).setFrames s₂.frames with heap := s₂.heap, slotsUsed := s₂.slotsUsed } : State).setVm s₂.vm := by
      have : s₂ = ({ s₂ with vm := (U.calling g mk a).vm } : State).setVm s₂.vm := rfl
      rw [e2] at this
      exact this
    obtain ⟨c₂, i₂, len₂, hc₂, hd₂, hf₂⟩ := hend
    have hW' : U.WarmedH s₂.vm := hW₂
    have hcc : c₂ = c := by
      have h1 : s₂.code? g.method = U.code? g.method := by
        rw [State.code?_eq, State.code?_eq, hW'.alike.method?]
      exact Option.some.inj (hc₂.symm.trans (h1.trans h.code))
    subst hcc
    have hlen : len₂ = len := by rw [hdg] at hd₂; cases hd₂; rfl
    subst hlen
    have hs₂ : s₂ = (({ U with heap := s₂.heap, slotsUsed := s₂.slotsUsed } : State).setVm s₂.vm).setTop { g with pc := g.pc + len₂, stack := v.toList ++ g.stack } := by
      refine e3.trans ?_
      rw [hf₂, State.calling_eq h.top, State.setFrames_setFrames, State.setTop_of_frames _ hr', hr]
      rfl
    have hsame : U.sameButNew ({ U with heap := s₂.heap, slotsUsed := s₂.slotsUsed } : State) L mc ms := by
      refine ⟨?_, q2, q3, q4, q5, q6⟩
      obtain ⟨t, ht, -⟩ := State.frames_cons hr
      show ({ U with heap := s₂.heap, slotsUsed := s₂.slotsUsed } : State) = { U.setFrames U.frames with heap := s₂.heap, slotsUsed := s₂.slotsUsed }
      rw [State.setFrames_self ht]
    subst hg
    refine Or.inl ⟨v, ⟨(({ U with heap := s₂.heap, slotsUsed := s₂.slotsUsed } : State).setVm s₂.vm), Ls ++ L, c0 + mc, s0 + ms⟩,
      ⟨X.admits, X.cas, X.clock, X.frames, X.room, X.hears, X.method, X.code, (X.here.setHeapUsed s₂.heap s₂.slotsUsed).setVm hW'.alike, X.tail, State.WarmedH.trans X.warmed hW', X.limits, X.bytes, X.same.trans (hsame.setVm s.vm)⟩,
      ⟨g, mk, s₂, L, rfl, rfl, hqc, rfl, hL, rfl, rfl⟩, ?_⟩
    show Steps p.tables e below _ ((({ U with heap := s₂.heap, slotsUsed := s₂.slotsUsed } : State).setVm s₂.vm).setTop { g with pc := g.pc + len₂, stack := v.toList ++ g.stack })
    rw [← hs₂]
    exact hsteps
  · obtain ⟨e2, q2, q3, q4, q5, q6⟩ := id hsm
    have e3 : s₂ = ({ (U.calling g mk a).setFrames s₂.frames with heap := s₂.heap, slotsUsed := s₂.slotsUsed } : State).setVm s₂.vm := by
      have : s₂ = ({ s₂ with vm := (U.calling g mk a).vm } : State).setVm s₂.vm := rfl
      rw [e2] at this
      exact this
    have hf₂ : s₂.frames = .throwing q :: .java g :: U.frames.tail := hend
    have hW' : U.WarmedH s₂.vm := hW₂
    have hs₂ : s₂ = ((({ U with heap := s₂.heap, slotsUsed := s₂.slotsUsed } : State).setVm s₂.vm).setTop g).pushFrame (.throwing q) := by
      refine e3.trans ?_
      rw [hf₂, State.calling_eq h.top, State.setFrames_setFrames, State.pushFrame, State.frames_setTop _ hr', State.setTop_of_frames _ hr', State.setFrames_setFrames, hr]
      rfl
    have hsame : U.sameButNew ({ U with heap := s₂.heap, slotsUsed := s₂.slotsUsed } : State) L mc ms := by
      refine ⟨?_, q2, q3, q4, q5, q6⟩
      obtain ⟨t, ht, -⟩ := State.frames_cons hr
      show ({ U with heap := s₂.heap, slotsUsed := s₂.slotsUsed } : State) = { U.setFrames U.frames with heap := s₂.heap, slotsUsed := s₂.slotsUsed }
      rw [State.setFrames_self ht]
    subst hg
    refine Or.inr ⟨q, ⟨(({ U with heap := s₂.heap, slotsUsed := s₂.slotsUsed } : State).setVm s₂.vm), Ls ++ L, c0 + mc, s0 + ms⟩,
      ⟨X.admits, X.cas, X.clock, X.frames, X.room, X.hears, X.method, X.code, (X.here.setHeapUsed s₂.heap s₂.slotsUsed).setVm hW'.alike, X.tail, State.WarmedH.trans X.warmed hW', X.limits, X.bytes, X.same.trans (hsame.setVm s.vm)⟩,
      ⟨g, mk, s₂, L, E, ce, rfl, rfl, hx, hce, hcv, hcl, rfl, hL, rfl, rfl⟩, ?_⟩
    show Steps p.tables e below _ (((({ U with heap := s₂.heap, slotsUsed := s₂.slotsUsed } : State).setVm s₂.vm).setTop g).pushFrame (.throwing q))
    rw [← hs₂]
    exact hsteps
end
variable {p : Program} {l : Launch} {e : Env} {R : Room} {s : State} {m : MethodId} {args : Array Value} {below : List Frame} {meth : Method} {c : Code} {T : State} {H : Heap} {locs : List Loc} {cells slots : Nat}
theorem vx_callVX (X : Stand p l e R s m args below meth c T locs cells slots) (hexec : p.tables.exec = Jvm.exec) {own C : String} {index : Nat} {y : MethodName} {bytes : ByteArray} {maxL : Nat} {ret : Option FieldType} {hh : List (Nat × Nat × Nat × Nat)}
    (hown : s.vm.findClass own = some m.cls) (hlink : (Cond.methodLink own index y).before args s = true) (hinst : (Cond.instanceMethod y).before args s = true) (hsel : (Cond.selects C y y).before args s = true)
    (hcode : (Cond.codeWith y bytes maxL ret hh).before args s = true) (hy : y.cls ≠ "java/lang/invoke/MethodHandle" ∧ y.cls ≠ "java/lang/invoke/VarHandle")
    {W9 : Nat} {Pre : Pt → Array Value → Prop} {Post : Pt → Array Value → Option Value → Pt → Prop} {PostX : Pt → Array Value → Addr → Pt → Prop} (hK : vx_Back l R p e below s args y 3 W9 Pre Post PostX)
    {b : Addr} {cellB : Cell} (hcell : T.heap[b]? = some cellB) (hobj : cellB.vm.isStatics = false) (hcls : s.vm.findClass C = some cellB.cls)
    {g : JFrame} (hg : g.method = m) (hsize : g.locals.size = c.maxLocals) {argsL rest : List Value} (hlen : ∀ sig, parseMethodDescriptor y.desc = some sig → argsL.length = sig.parameters.length)
    (hstack : g.stack = argsL.reverse ++ .ref b :: rest) (hW : 2 * g.monitorRoom + (rest.map fun v => v.category).sum ≤ W9) (hdg : decode c.code g.pc = .ok (.invokevirtual index, 3))
    (hpre : ∀ vm₁, s.WarmedH vm₁ → Pre ⟨T.setVm vm₁, locs, cells, slots⟩ (Value.ref b :: argsL).toArray) :
    (∃ (v : Option Value) (vm₁ : Vm) (B : Pt), s.WarmedH vm₁ ∧ Stand p l e R s m args below meth c B.U B.locs B.cells B.slots ∧ Post ⟨T.setVm vm₁, locs, cells, slots⟩ (Value.ref b :: argsL).toArray v B ∧
      ∀ target, Steps p.tables e below (B.U.setTop { g with pc := g.pc + 3, stack := v.toList ++ rest }) target → Steps p.tables e below (T.setTop g) target) ∨
    (∃ (q : Addr) (vm₁ : Vm) (B : Pt), s.WarmedH vm₁ ∧ Stand p l e R s m args below meth c B.U B.locs B.cells B.slots ∧ PostX ⟨T.setVm vm₁, locs, cells, slots⟩ (Value.ref b :: argsL).toArray q B ∧
      Steps p.tables e below (T.setTop g) ((B.U.setTop { g with stack := rest }).pushFrame (.throwing q))) := by
  obtain ⟨mk, methM, hnamed, hmethM, hstM, habM⟩ := Cond.instanceMethod_spec hinst
  obtain ⟨m8, methM', cM, hn8, hmethM', -, -, -, -, -, -, hsigM⟩ := Cond.codeWith_spec hcode
  cases Option.some.inj (hn8.symm.trans hnamed)
  cases hmethM.symm.trans hmethM'
  obtain ⟨c2, r2, m2, q1, q2, q3, q4, kP, hkP, hkPi⟩ := Cond.selects_spec hsel
  cases hcls.symm.trans q1
  cases (State.methodFound?_of_named hnamed hy).symm.trans q2
  cases hnamed.symm.trans q3
  have hselP : selectMethod e.platform s.vm cellB.cls mk = .method mk := by rw [Launch.admits_selectMethod X.admits]; exact q4
  obtain ⟨vm₁, X₁, hstep₁⟩ := X.invokevirtual hexec hown hlink hnamed hmethM hstM hkP hkPi hy (a := b) (cell := cellB) hcell
    (fun z h => by rw [h] at hobj; cases hobj) hselP hmethM habM hkP hkPi (g := g) hg (argsL := argsL) (rest := rest) (hlen _ hsigM) hstack hdg
  rcases hK m meth c ⟨T.setVm vm₁, locs, cells, slots⟩ { g with stack := rest } (.invokevirtual index) mk (Value.ref b :: argsL).toArray X₁ hg hsize hdg hW (X₁.named hnamed) (hpre vm₁ X₁.warmed) with ⟨v, B, X', hpost, hsteps⟩ | ⟨q, B, X', hpost, hsteps⟩
  · exact Or.inl ⟨v, vm₁, B, X₁.warmed, X', hpost, fun target h => hstep₁ _ fun acts => by rw [doInvoke_state]; exact hsteps.trans h⟩
  · exact Or.inr ⟨q, vm₁, B, X₁.warmed, X', hpost, hstep₁ _ fun acts => by rw [doInvoke_state]; exact hsteps⟩
theorem vx_callSX (X : Stand p l e R s m args below meth c T locs cells slots) (hexec : p.tables.exec = Jvm.exec) {own : String} {index : Nat} {y : MethodName} {bytes : ByteArray} {maxL : Nat} {ret : Option FieldType} {hh : List (Nat × Nat × Nat × Nat)}
    (hown : s.vm.findClass own = some m.cls) (hlink : (Cond.methodLink own index y).before args s = true) (hstat : (Cond.static y).before args s = true) (hinit : (Cond.initialized y.cls).before args s = true)
    (hcode : (Cond.codeWith y bytes maxL ret hh).before args s = true) (hy : y.cls ≠ "java/lang/invoke/MethodHandle" ∧ y.cls ≠ "java/lang/invoke/VarHandle")
    {W9 : Nat} {Pre : Pt → Array Value → Prop} {Post : Pt → Array Value → Option Value → Pt → Prop} {PostX : Pt → Array Value → Addr → Pt → Prop} (hK : vx_Back l R p e below s args y 3 W9 Pre Post PostX)
    {g : JFrame} (hg : g.method = m) (hsize : g.locals.size = c.maxLocals) {argsL rest : List Value} (hlen : ∀ sig, parseMethodDescriptor y.desc = some sig → argsL.length = sig.parameters.length)
    (hstack : g.stack = argsL.reverse ++ rest) (hW : 2 * g.monitorRoom + (rest.map fun v => v.category).sum ≤ W9) (hdg : decode c.code g.pc = .ok (.invokestatic index, 3))
    (hpre : ∀ vm₁, s.WarmedH vm₁ → Pre ⟨T.setVm vm₁, locs, cells, slots⟩ argsL.toArray) :
    (∃ (v : Option Value) (vm₁ : Vm) (B : Pt), s.WarmedH vm₁ ∧ Stand p l e R s m args below meth c B.U B.locs B.cells B.slots ∧ Post ⟨T.setVm vm₁, locs, cells, slots⟩ argsL.toArray v B ∧
      ∀ target, Steps p.tables e below (B.U.setTop { g with pc := g.pc + 3, stack := v.toList ++ rest }) target → Steps p.tables e below (T.setTop g) target) ∨
    (∃ (q : Addr) (vm₁ : Vm) (B : Pt), s.WarmedH vm₁ ∧ Stand p l e R s m args below meth c B.U B.locs B.cells B.slots ∧ PostX ⟨T.setVm vm₁, locs, cells, slots⟩ argsL.toArray q B ∧
      Steps p.tables e below (T.setTop g) ((B.U.setTop { g with stack := rest }).pushFrame (.throwing q))) := by
  obtain ⟨mk, methM, cM, hnamed, hmethM, -, -, -, -, -, -, hsigM⟩ := Cond.codeWith_spec hcode
  have hstatic : methM.isStatic = true := Cond.static_spec hnamed hmethM hstat
  obtain ⟨kP, hkP, -⟩ := className_of_methodNamed hnamed
  have hinitP : kP.init = .initialized := Cond.initialized_spec (findClass_of_methodNamed hnamed) hkP hinit
  obtain ⟨vm₁, X₁, hstep₁⟩ := X.invokestatic hexec hown hlink hnamed hmethM hstatic hkP hinitP hy (g := g) hg (argsL := argsL) (rest := rest) (hlen _ hsigM) hstack hdg
  rcases hK m meth c ⟨T.setVm vm₁, locs, cells, slots⟩ { g with stack := rest } (.invokestatic index) mk argsL.toArray X₁ hg hsize hdg hW (X₁.named hnamed) (hpre vm₁ X₁.warmed) with ⟨v, B, X', hpost, hsteps⟩ | ⟨q, B, X', hpost, hsteps⟩
  · exact Or.inl ⟨v, vm₁, B, X₁.warmed, X', hpost, fun target h => hstep₁ _ fun acts => by rw [doInvoke_state]; exact hsteps.trans h⟩
  · exact Or.inr ⟨q, vm₁, B, X₁.warmed, X', hpost, hstep₁ _ fun acts => by rw [doInvoke_state]; exact hsteps⟩
theorem vx_callVW (X : Stand p l e R s m args below meth c T locs cells slots) (hexec : p.tables.exec = Jvm.exec) {own C : String} {index : Nat} {y : MethodName} {bytes : ByteArray} {maxL : Nat} {ret : Option FieldType} {hh : List (Nat × Nat × Nat × Nat)}
    (hown : s.vm.findClass own = some m.cls) (hlink : (Cond.methodLink own index y).before args s = true) (hinst : (Cond.instanceMethod y).before args s = true) (hsel : (Cond.selects C y y).before args s = true)
    (hcode : (Cond.codeWith y bytes maxL ret hh).before args s = true) (hy : y.cls ≠ "java/lang/invoke/MethodHandle" ∧ y.cls ≠ "java/lang/invoke/VarHandle")
    {W9 : Nat} {Pre : Pt → Array Value → Prop} {Post : Pt → Array Value → Option Value → Pt → Prop} (hK : Back l R p e below s args y 3 W9 Pre Post)
    {b : Addr} {cellB : Cell} (hcell : T.heap[b]? = some cellB) (hobj : cellB.vm.isStatics = false) (hcls : s.vm.findClass C = some cellB.cls)
    {g : JFrame} (hg : g.method = m) (hsize : g.locals.size = c.maxLocals) {argsL rest : List Value} (hlen : ∀ sig, parseMethodDescriptor y.desc = some sig → argsL.length = sig.parameters.length)
    (hstack : g.stack = argsL.reverse ++ .ref b :: rest) (hW : 2 * g.monitorRoom + (rest.map fun v => v.category).sum ≤ W9) (hdg : decode c.code g.pc = .ok (.invokevirtual index, 3))
    (hpre : ∀ vm₁, s.WarmedH vm₁ → Pre ⟨T.setVm vm₁, locs, cells, slots⟩ (Value.ref b :: argsL).toArray) :
    ∃ (v : Option Value) (vm₁ : Vm) (B : Pt), s.WarmedH vm₁ ∧ Stand p l e R s m args below meth c B.U B.locs B.cells B.slots ∧ Post ⟨T.setVm vm₁, locs, cells, slots⟩ (Value.ref b :: argsL).toArray v B ∧
      ∀ target, Steps p.tables e below (B.U.setTop { g with pc := g.pc + 3, stack := v.toList ++ rest }) target → Steps p.tables e below (T.setTop g) target := by
  obtain ⟨mk, methM, hnamed, hmethM, hstM, habM⟩ := Cond.instanceMethod_spec hinst
  obtain ⟨m8, methM', cM, hn8, hmethM', -, -, -, -, -, -, hsigM⟩ := Cond.codeWith_spec hcode
  cases Option.some.inj (hn8.symm.trans hnamed)
  cases hmethM.symm.trans hmethM'
  obtain ⟨c2, r2, m2, q1, q2, q3, q4, kP, hkP, hkPi⟩ := Cond.selects_spec hsel
  cases hcls.symm.trans q1
  cases (State.methodFound?_of_named hnamed hy).symm.trans q2
  cases hnamed.symm.trans q3
  have hselP : selectMethod e.platform s.vm cellB.cls mk = .method mk := by rw [Launch.admits_selectMethod X.admits]; exact q4
  obtain ⟨vm₁, X₁, hstep₁⟩ := X.invokevirtual hexec hown hlink hnamed hmethM hstM hkP hkPi hy (a := b) (cell := cellB) hcell
    (fun z h => by rw [h] at hobj; cases hobj) hselP hmethM habM hkP hkPi (g := g) hg (argsL := argsL) (rest := rest) (hlen _ hsigM) hstack hdg
  obtain ⟨v, B, X', hpost, hsteps⟩ := hK m meth c ⟨T.setVm vm₁, locs, cells, slots⟩ { g with stack := rest } (.invokevirtual index) mk (Value.ref b :: argsL).toArray X₁ hg hsize hdg hW (X₁.named hnamed) (hpre vm₁ X₁.warmed)
  exact ⟨v, vm₁, B, X₁.warmed, X', hpost, fun target h => hstep₁ _ fun acts => by rw [doInvoke_state]; exact hsteps.trans h⟩
abbrev vx_CVW (R : Room) (s : State) (args : Array Value) (own C : String) (index : Nat) (y : MethodName) (bytes : ByteArray) (maxL : Nat) (ret : Option FieldType) (hh : List (Nat × Nat × Nat × Nat)) (ws : List Cond) (rm : Room) (mc ms n : Nat) : Prop :=
  (rm.cells = mc ∧ rm.slots = ms ∧ rm.frames + 1 ≤ R.frames ∧ 8 + (maxL + 11) + rm.locals ≤ R.locals ∧ (∀ w ∈ ws, ∀ (a' : Array Value) (U : State), s.WarmedH U.vm → w.before a' U = true) ∧ Cond.codeWith y bytes maxL ret hh ∈ ws) ∧
  (Cond.codeWith y bytes maxL ret hh).before args s = true ∧ (Cond.initialized y.cls).before args s = true ∧ (y.cls ≠ "java/lang/invoke/MethodHandle" ∧ y.cls ≠ "java/lang/invoke/VarHandle") ∧
  (∀ sig, parseMethodDescriptor y.desc = some sig → n = sig.parameters.length) ∧ (Cond.methodLink own index y).before args s = true ∧ (Cond.instanceMethod y).before args s = true ∧ (Cond.selects C y y).before args s = true
theorem vx_cwVW {own C : String} {index maxL mc ms : Nat} {y : MethodName} {bytes : ByteArray} {ret : Option FieldType} {hh : List (Nat × Nat × Nat × Nat)} {Ts ws ws' : List Cond} {rm : Room} (n : Nat) (ht : ∀ w ∈ Ts, w.before args s = true) (hT : GoodIn Ts (wsV own index C y ws)) (hw : ws = Cond.codeWith y bytes maxL ret hh :: ws') (hrc : rm.cells = mc) (hrs : rm.slots = ms)
    (hd : y.cls = C ∧ y.cls ≠ "java/lang/invoke/MethodHandle" ∧ y.cls ≠ "java/lang/invoke/VarHandle" ∧ (parseMethodDescriptor y.desc).map (fun d => d.parameters.length) = some n) (hR : rm.frames + 1 ≤ R.frames ∧ 8 + (maxL + 11) + rm.locals ≤ R.locals) :
    vx_CVW R s args own C index y bytes maxL ret hh ws rm mc ms n := by
  obtain ⟨hC, hd⟩ := hd
  subst hC
  have ok : ∀ w ∈ wsV own index y.cls y ws, w.before args s = true := fun w h => ht w (hT w h).1
  have hG : GoodIn Ts ws := fun w h => hT w (by unfold wsV; exact List.mem_append_right _ h)
  have hc : Cond.codeWith y bytes maxL ret hh ∈ ws := by rw [hw]; exact List.mem_cons_self
  refine ⟨⟨hrc, hrs, hR.1, hR.2, pay_in ht hG, hc⟩, ht _ (hG _ hc).1, ok _ (by simp [wsV]), ⟨hd.1, hd.2.1⟩, fun sig h => ?_, ok _ (by simp [wsV]), ok _ (by simp [wsV]), ok _ (by simp [wsV])⟩
  have h2 := hd.2.2
  rw [h] at h2
  exact (Option.some.inj h2).symm
theorem vx_runVW {y : MethodName} {bytes cc : ByteArray} {maxL nL mc ms n index : Nat} {ret : Option FieldType} {hh : List (Nat × Nat × Nat × Nat)} {ws : List Cond} {rm : Room} {Pc : Array Value → State → Prop} {Qc : Array Value → State → Outcome → State → Prop} {free : Addr → Prop} {Ts : List Cond} {own C : String} {b : Addr} {As rest : List Value} {g : JFrame}
    (S : CallFix p m c cc nL s args Ts own) (hM : Met l y ws rm Pc Qc mc ms free) (cw : vx_CVW R s args own C index y bytes maxL ret hh ws rm mc ms n) (hp : PreV s H C b Pc As)
    (hg : g.method = m) (hn : As.length = n) (hsize : g.locals.size = nL) (hstack : g.stack = As.reverse ++ .ref b :: rest) (hW : 2 * g.monitorRoom + (rest.map fun v => v.category).sum ≤ 8) (hdg : decode cc g.pc = .ok (.invokevirtual index, 3)) (hf : cells + mc ≤ R.cells ∧ slots + ms ≤ R.slots) :
    va_Run p l e R s m args below meth c H locs cells slots mc ms g rest (Qc (Value.ref b :: As).toArray) free := by
  obtain ⟨⟨hrc, hrs, hfr, hlo, hws, hcw⟩, hcode, hini, hy, hlen, hl, hin, hse⟩ := cw
  have hK : Back l R p e below s args y 3 8 (PreOf R mc ms Pc) (PostOf Qc mc ms free) := va_backW (hh := hh) (bytes := bytes) (maxL := maxL) (ret := ret) hM hp.1 hrc hrs hfr hlo hws hcw (fun a' U hW => word_at hW (Or.inl (by first | rfl | simp [Cond.onTables, Cond.keeps, Cond.steady])) hini)
  obtain ⟨hx, hb, hml, ho, -⟩ := S
  obtain ⟨-, ⟨cellB, hcB, hoB, hclB⟩, hPc⟩ := hp
  intro T hT X
  obtain ⟨v, vm₁, ⟨U', l2, c2, s2⟩, hW₁, X', ⟨g', mk, t, L, e1, e2, hq, h1, hL, h2, h3⟩, st⟩ := vx_callVW X hx (C := C) (hh := hh) (bytes := bytes) (maxL := maxL) (ret := ret) ho hl hin hse hcode hy hK (by rw [hT]; exact hcB) hoB hclB hg (hsize.trans hml.symm) (argsL := As) (rest := rest) (fun sig h => hn.trans (hlen sig h)) hstack hW (by rw [hb]; exact hdg)
    (fun vm₁ hW₁ => ⟨hf.1, hf.2, hPc (T.setVm vm₁) hT hW₁⟩)
  dsimp only [Pt.U, Pt.locs, Pt.cells, Pt.slots] at X' e1 e2 h1 h2 h3 st
  subst h1; subst h2; subst h3
  exact ⟨v, (T.setVm vm₁).calling g' mk (Value.ref b :: As).toArray, t, U', L, hT, X', hL, e1, e2, hq, st⟩
section
variable {y : MethodName} {bytes cc : ByteArray} {maxL nL mc ms n index : Nat} {ret : Option FieldType} {ws : List Cond} {rm : Room} {Pc : Array Value → State → Prop} {Qc : Array Value → State → Outcome → State → Prop} {XC : String → State → State → Prop} {free : Addr → Prop} {Ts : List Cond} {own C : String} {b : Addr} {As rest : List Value} {g : JFrame}
theorem vx_runVX {hh : List (Nat × Nat × Nat × Nat)} (S : CallFix p m c cc nL s args Ts own) (hM : vx_Met l y ws rm Pc Qc XC mc ms free) (cw : vx_CVW R s args own C index y bytes maxL ret hh ws rm mc ms n) (hp : PreV s H C b Pc As)
    (hg : g.method = m) (hn : As.length = n) (hsize : g.locals.size = nL) (hstack : g.stack = As.reverse ++ .ref b :: rest) (hW : 2 * g.monitorRoom + (rest.map fun v => v.category).sum ≤ 8) (hdg : decode cc g.pc = .ok (.invokevirtual index, 3)) (hf : cells + mc ≤ R.cells ∧ slots + ms ≤ R.slots) :
    vx_Run p l e R s m args below meth c H locs cells slots mc ms g rest (Qc (Value.ref b :: As).toArray) XC free := by
  obtain ⟨⟨hrc, hrs, hfr, hlo, hws, hcw⟩, hcode, hini, hy, hlen, hl, hin, hse⟩ := cw
  have hK : vx_Back l R p e below s args y 3 8 (PreOf R mc ms Pc) (PostOf Qc mc ms free) (vx_Post XC mc ms free) := vx_backW (hh := hh) (bytes := bytes) (maxL := maxL) (ret := ret) hM hp.1 hrc hrs hfr hlo hws hcw (fun a' U hW => word_at hW (Or.inl (by first | rfl | simp [Cond.onTables, Cond.keeps, Cond.steady])) hini)
  obtain ⟨hx, hb, hml, ho, -⟩ := S
  obtain ⟨-, ⟨cellB, hcB, hoB, hclB⟩, hPc⟩ := hp
  intro T hT X
  rcases vx_callVX X hx (C := C) (hh := hh) (bytes := bytes) (maxL := maxL) (ret := ret) ho hl hin hse hcode hy hK (by rw [hT]; exact hcB) hoB hclB hg (hsize.trans hml.symm) (argsL := As) (rest := rest) (fun sig h => hn.trans (hlen sig h)) hstack hW (by rw [hb]; exact hdg)
    (fun vm₁ hW₁ => ⟨hf.1, hf.2, hPc (T.setVm vm₁) hT hW₁⟩) with ⟨v, vm₁, ⟨U', l2, c2, s2⟩, hW₁, X', ⟨g', mk, t, L, e1, e2, hq, h1, hL, h2, h3⟩, st⟩ | ⟨q, vm₁, ⟨U', l2, c2, s2⟩, hW₁, X', ⟨g', mk, t, L, E, ce, e1, e2, hq, hce, hcv, hcl, h1, hL, h2, h3⟩, st⟩
  · dsimp only [Pt.U, Pt.locs, Pt.cells, Pt.slots] at X' e1 e2 h1 h2 h3 st
    subst h1; subst h2; subst h3
    exact Or.inl ⟨v, (T.setVm vm₁).calling g' mk (Value.ref b :: As).toArray, t, U', L, hT, X', hL, e1, e2, hq, st⟩
  · dsimp only [Pt.U, Pt.locs, Pt.cells, Pt.slots] at X' e1 e2 h1 h2 h3 st hcl
    subst h1; subst h2; subst h3
    exact Or.inr ⟨q, (T.setVm vm₁).calling g' mk (Value.ref b :: As).toArray, t, U', L, E, ce, hT, X', hL, e1, e2, hq, hce, hcv, vx_cls hW₁ hcl, st⟩
theorem vx_runSX {hh : List (Nat × Nat × Nat × Nat)} (S : CallFix p m c cc nL s args Ts own) (hM : vx_Met l y ws rm Pc Qc XC mc ms free) (cw : vx_CSW R s args own index y bytes maxL ret hh ws rm mc ms n) (hp : PreS s H Pc As)
    (hg : g.method = m) (hn : As.length = n) (hsize : g.locals.size = nL) (hstack : g.stack = As.reverse ++ rest) (hW : 2 * g.monitorRoom + (rest.map fun v => v.category).sum ≤ 8) (hdg : decode cc g.pc = .ok (.invokestatic index, 3)) (hf : cells + mc ≤ R.cells ∧ slots + ms ≤ R.slots) :
    vx_Run p l e R s m args below meth c H locs cells slots mc ms g rest (Qc As.toArray) XC free := by
  obtain ⟨⟨hrc, hrs, hfr, hlo, hws, hcw⟩, hcode, hini, hy, hlen, hl, hstt⟩ := cw
  have hK : vx_Back l R p e below s args y 3 8 (PreOf R mc ms Pc) (PostOf Qc mc ms free) (vx_Post XC mc ms free) := vx_backW (hh := hh) (bytes := bytes) (maxL := maxL) (ret := ret) hM hp.1 hrc hrs hfr hlo hws hcw (fun a' U hW => word_at hW (Or.inl (by first | rfl | simp [Cond.onTables, Cond.keeps, Cond.steady])) hini)
  obtain ⟨hx, hb, hml, ho, -⟩ := S
  intro T hT X
  rcases vx_callSX X hx (hh := hh) (bytes := bytes) (maxL := maxL) (ret := ret) ho hl hstt hini hcode hy hK hg (hsize.trans hml.symm) (argsL := As) (rest := rest) (fun sig h => hn.trans (hlen sig h)) hstack hW (by rw [hb]; exact hdg)
    (fun vm₁ hW₁ => ⟨hf.1, hf.2, hp.2 (T.setVm vm₁) hT hW₁⟩) with ⟨v, vm₁, ⟨U', l2, c2, s2⟩, hW₁, X', ⟨g', mk, t, L, e1, e2, hq, h1, hL, h2, h3⟩, st⟩ | ⟨q, vm₁, ⟨U', l2, c2, s2⟩, hW₁, X', ⟨g', mk, t, L, E, ce, e1, e2, hq, hce, hcv, hcl, h1, hL, h2, h3⟩, st⟩
  · dsimp only [Pt.U, Pt.locs, Pt.cells, Pt.slots] at X' e1 e2 h1 h2 h3 st
    subst h1; subst h2; subst h3
    exact Or.inl ⟨v, (T.setVm vm₁).calling g' mk As.toArray, t, U', L, hT, X', hL, e1, e2, hq, st⟩
  · dsimp only [Pt.U, Pt.locs, Pt.cells, Pt.slots] at X' e1 e2 h1 h2 h3 st hcl
    subst h1; subst h2; subst h3
    exact Or.inr ⟨q, (T.setVm vm₁).calling g' mk As.toArray, t, U', L, E, ce, hT, X', hL, e1, e2, hq, hce, hcv, vx_cls hW₁ hcl, st⟩
end
end VXH
theorem vx_ofWH {l : Launch} {y : MethodName} {ws ws' : List Cond} {rm : Room} {Pc : Array Value → State → Prop} {Qc : Array Value → State → Outcome → State → Prop} {XC : String → State → State → Prop} {mc ms : Nat} {free : Addr → Prop} {cc : ByteArray} {maxL : Nat} {ret : Option FieldType} {hh : List (Nat × Nat × Nat × Nat)}
    (hy : plainName y.cls = true) (hw : ws = Cond.codeWith y cc maxL ret hh :: ws')
    (body : ∀ p e s m args below meth c s₁, BodyLoose p l y (headSpec ws rm) cc maxL ret e s m args below meth c s₁ → c.maxLocals = maxL → Pc args s →
      W p l e (headSpec ws rm).room s m args below meth c s.heap [] 0 0 (vx_MQ below Qc XC args s mc ms free) (entryFrame m args maxL)) : vx_Met l y ws rm Pc Qc XC mc ms free := by
  refine MetFree.of_bodyS (code := cc) (maxLocals := maxL) (ret := ret) hy ?_ ?_
  · intro args s m h hn
    obtain ⟨m9, meth, c, hn9, h1, h2, h3, h4, -, h5, h6, -⟩ := Cond.codeWith_spec (atoms_spec (ws := ws) h _ (by rw [hw]; exact List.mem_cons_self))
    cases hn.symm.trans hn9
    exact ⟨meth, c, h1, h2, h3, h4, h5, h6⟩
  · intro p e s m args below meth c s₁ B hml hP _
    have hh0 : s₁.heap = s.heap := by rw [B.state]; rfl
    obtain ⟨t, a1, o, b1, b2, b3⟩ := body p e s m args below meth c s₁ B hml hP s₁ hh0 (Stand.of_body B)
    exact ⟨t, o, a1, b1, b2, b3⟩
/-! ===== END ===== -/
end
section
/-! ===== BEGIN printed: names, fields, word lists, decode rows ===== -/
def RX0 : String := "Restitutory$Persecution"
def TX0 : u_T := fun k => match k with
  | 0 => ("Restitutory$Persecution", "group", "I", true)
  | 1 => ("Restitutory$Persecution", "land", "I", true)
  | 2 => ("Restitutory$Persecution", "from", "I", true)
  | _ => ("Restitutory$Persecution", "to", "I", true)
def tyX0 : Nat → FieldType := fun k => match k with
  | 0 => .int
  | 1 => .int
  | 2 => .int
  | _ => .int
abbrev wsX00 : List Cond := u_ws RX0 TX0 4
theorem nmX0 : ∀ a, a < 4 → ∀ b, b < 4 → a ≠ b → (TX0 a).2.1 ≠ (TX0 b).2.1 := by decide +kernel
theorem tyX0_ok : ∀ k, k < 4 → parseFieldDescriptor (TX0 k).2.2.1 = some (tyX0 k) := by decide +kernel
abbrev cX0_init : ByteArray := prog_2_method_1_code
def yX0_init : MethodName := ⟨RX0, "<init>", "(IIII)V"⟩
abbrev cX0_strikes : ByteArray := prog_2_method_2_code
def yX0_strikes : MethodName := ⟨RX0, "strikes", "(III)Z"⟩
def RX1 : String := "Restitutory$Person"
def TX1 : u_T := fun k => match k with
  | 0 => ("Restitutory$Person", "number", "I", true)
  | 1 => ("Restitutory$Person", "group", "I", true)
  | 2 => ("Restitutory$Person", "dead", "Z", false)
  | 3 => ("Restitutory$Person", "heirs", "[LRestitutory$Person;", true)
  | 4 => ("Restitutory$Person", "heirCount", "I", false)
  | _ => ("Restitutory$Person", "titleEndsWith", "LRestitutory$Person;", false)
def tyX1 : Nat → FieldType := fun k => match k with
  | 0 => .int
  | 1 => .int
  | 2 => .boolean
  | 3 => .array (.object "Restitutory$Person")
  | 4 => .int
  | _ => .object "Restitutory$Person"
abbrev wsX10 : List Cond := u_ws RX1 TX1 6
theorem nmX1 : ∀ a, a < 6 → ∀ b, b < 6 → a ≠ b → (TX1 a).2.1 ≠ (TX1 b).2.1 := by decide +kernel
theorem tyX1_ok : ∀ k, k < 6 → parseFieldDescriptor (TX1 k).2.2.1 = some (tyX1 k) := by decide +kernel
abbrev cX1_init : ByteArray := prog_3_method_1_code
def yX1_init : MethodName := ⟨RX1, "<init>", "(II)V"⟩
abbrev cX1_hasToldHeir : ByteArray := prog_3_method_2_code
def yX1_hasToldHeir : MethodName := ⟨RX1, "hasToldHeir", "(LRestitutory$Person;)Z"⟩
def RX2 : String := "Restitutory$Station"
def TX2 : u_T := fun k => match k with
  | 0 => ("Restitutory$Station", "number", "I", true)
  | 1 => ("Restitutory$Station", "party", "LRestitutory$Person;", true)
  | 2 => ("Restitutory$Station", "kind", "I", true)
  | 3 => ("Restitutory$Station", "land", "I", true)
  | 4 => ("Restitutory$Station", "year", "I", true)
  | 5 => ("Restitutory$Station", "rebutted", "Z", false)
  | 6 => ("Restitutory$Station", "settled", "Z", false)
  | 7 => ("Restitutory$Station", "ahead", "LRestitutory$Station;", false)
  | _ => ("Restitutory$Station", "next", "LRestitutory$Station;", false)
def tyX2 : Nat → FieldType := fun k => match k with
  | 0 => .int
  | 1 => .object "Restitutory$Person"
  | 2 => .int
  | 3 => .int
  | 4 => .int
  | 5 => .boolean
  | 6 => .boolean
  | 7 => .object "Restitutory$Station"
  | _ => .object "Restitutory$Station"
abbrev wsX20 : List Cond := u_ws RX2 TX2 9
theorem nmX2 : ∀ a, a < 9 → ∀ b, b < 9 → a ≠ b → (TX2 a).2.1 ≠ (TX2 b).2.1 := by decide +kernel
theorem tyX2_ok : ∀ k, k < 9 → parseFieldDescriptor (TX2 k).2.2.1 = some (tyX2 k) := by decide +kernel
abbrev cX2_init : ByteArray := prog_4_method_1_code
def yX2_init : MethodName := ⟨RX2, "<init>", "(ILRestitutory$Person;III)V"⟩
def RX3 : String := "Restitutory$Thing"
def TX3 : u_T := fun k => match k with
  | 0 => ("Restitutory$Thing", "marks", "I", false)
  | 1 => ("Restitutory$Thing", "size", "I", true)
  | 2 => ("Restitutory$Thing", "stations", "[LRestitutory$Station;", true)
  | 3 => ("Restitutory$Thing", "stationCount", "I", false)
  | 4 => ("Restitutory$Thing", "first", "LRestitutory$Station;", false)
  | _ => ("Restitutory$Thing", "last", "LRestitutory$Station;", false)
def tyX3 : Nat → FieldType := fun k => match k with
  | 0 => .int
  | 1 => .int
  | 2 => .array (.object "Restitutory$Station")
  | 3 => .int
  | 4 => .object "Restitutory$Station"
  | _ => .object "Restitutory$Station"
abbrev wsX30 : List Cond := u_ws RX3 TX3 6
theorem nmX3 : ∀ a, a < 6 → ∀ b, b < 6 → a ≠ b → (TX3 a).2.1 ≠ (TX3 b).2.1 := by decide +kernel
theorem tyX3_ok : ∀ k, k < 6 → parseFieldDescriptor (TX3 k).2.2.1 = some (tyX3 k) := by decide +kernel
abbrev cX3_init : ByteArray := prog_5_method_1_code
def yX3_init : MethodName := ⟨RX3, "<init>", "(II)V"⟩
abbrev cX3_likenessTo : ByteArray := prog_5_method_2_code
def yX3_likenessTo : MethodName := ⟨RX3, "likenessTo", "(LRestitutory$Thing;)I"⟩
abbrev cX3_lastParty : ByteArray := prog_5_method_3_code
def yX3_lastParty : MethodName := ⟨RX3, "lastParty", "()LRestitutory$Person;"⟩
abbrev cX3_putInOrder : ByteArray := prog_5_method_4_code
def yX3_putInOrder : MethodName := ⟨RX3, "putInOrder", "(LRestitutory$Station;)V"⟩
def RX4 : String := "Restitutory"
def TX4 : u_T := fun k => match k with
  | 0 => ("Restitutory", "people", "[LRestitutory$Person;", true)
  | 1 => ("Restitutory", "peopleCount", "I", false)
  | 2 => ("Restitutory", "persecutions", "[LRestitutory$Persecution;", true)
  | 3 => ("Restitutory", "persecutionCount", "I", false)
  | 4 => ("Restitutory", "faithYears", "[I", true)
  | 5 => ("Restitutory", "currentYear", "I", false)
  | 6 => ("Restitutory", "things", "[LRestitutory$Thing;", true)
  | _ => ("Restitutory", "thingCount", "I", false)
def tyX4 : Nat → FieldType := fun k => match k with
  | 0 => .array (.object "Restitutory$Person")
  | 1 => .int
  | 2 => .array (.object "Restitutory$Persecution")
  | 3 => .int
  | 4 => .array .int
  | 5 => .int
  | 6 => .array (.object "Restitutory$Thing")
  | _ => .int
abbrev wsX40 : List Cond := u_ws RX4 TX4 8
theorem nmX4 : ∀ a, a < 8 → ∀ b, b < 8 → a ≠ b → (TX4 a).2.1 ≠ (TX4 b).2.1 := by decide +kernel
theorem tyX4_ok : ∀ k, k < 8 → parseFieldDescriptor (TX4 k).2.2.1 = some (tyX4 k) := by decide +kernel
abbrev cX4_init : ByteArray := prog_1_method_1_code
def yX4_init : MethodName := ⟨RX4, "<init>", "()V"⟩
abbrev cX4_person : ByteArray := prog_1_method_2_code
def yX4_person : MethodName := ⟨RX4, "person", "(I)I"⟩
abbrev cX4_die : ByteArray := prog_1_method_3_code
def yX4_die : MethodName := ⟨RX4, "die", "(I)V"⟩
abbrev cX4_heir : ByteArray := prog_1_method_4_code
def yX4_heir : MethodName := ⟨RX4, "heir", "(II)I"⟩
abbrev cX4_persecution : ByteArray := prog_1_method_5_code
def yX4_persecution : MethodName := ⟨RX4, "persecution", "(IIII)I"⟩
abbrev cX4_faith : ByteArray := prog_1_method_6_code
def yX4_faith : MethodName := ⟨RX4, "faith", "(II)I"⟩
abbrev cX4_now : ByteArray := prog_1_method_7_code
def yX4_now : MethodName := ⟨RX4, "now", "(I)I"⟩
abbrev cX4_thing : ByteArray := prog_1_method_8_code
def yX4_thing : MethodName := ⟨RX4, "thing", "(II)I"⟩
abbrev cX4_mark : ByteArray := prog_1_method_9_code
def yX4_mark : MethodName := ⟨RX4, "mark", "(IIZ)Z"⟩
abbrev cX4_station : ByteArray := prog_1_method_10_code
def yX4_station : MethodName := ⟨RX4, "station", "(IIIII)I"⟩
abbrev cX4_rebut : ByteArray := prog_1_method_11_code
def yX4_rebut : MethodName := ⟨RX4, "rebut", "(IIZ)Z"⟩
abbrev cX4_settle : ByteArray := prog_1_method_12_code
def yX4_settle : MethodName := ⟨RX4, "settle", "(IIZ)Z"⟩
abbrev cX4_isPersecuted : ByteArray := prog_1_method_13_code
def yX4_isPersecuted : MethodName := ⟨RX4, "isPersecuted", "(III)Z"⟩
abbrev cX4_heirOf : ByteArray := prog_1_method_14_code
def yX4_heirOf : MethodName := ⟨RX4, "heirOf", "(I)I"⟩
abbrev cX4_likeness : ByteArray := prog_1_method_15_code
def yX4_likeness : MethodName := ⟨RX4, "likeness", "(II)I"⟩
abbrev cX4_likest : ByteArray := prog_1_method_16_code
def yX4_likest : MethodName := ⟨RX4, "likest", "(I)I"⟩
abbrev cX4_stationAt : ByteArray := prog_1_method_17_code
def yX4_stationAt : MethodName := ⟨RX4, "stationAt", "(II)I"⟩
abbrev cX4_isLoss : ByteArray := prog_1_method_18_code
def yX4_isLoss : MethodName := ⟨RX4, "isLoss", "(II)Z"⟩
abbrev cX4_holder : ByteArray := prog_1_method_19_code
def yX4_holder : MethodName := ⟨RX4, "holder", "(I)I"⟩
abbrev cX4_owner : ByteArray := prog_1_method_20_code
def yX4_owner : MethodName := ⟨RX4, "owner", "(I)I"⟩
abbrev cX4_ownerAnew : ByteArray := prog_1_method_21_code
def yX4_ownerAnew : MethodName := ⟨RX4, "ownerAnew", "(I)I"⟩
abbrev cX4_asks : ByteArray := prog_1_method_22_code
def yX4_asks : MethodName := ⟨RX4, "asks", "(I)I"⟩
abbrev cX4_requireGroup : ByteArray := prog_1_method_23_code
def yX4_requireGroup : MethodName := ⟨RX4, "requireGroup", "(I)V"⟩
abbrev cX4_requireLand : ByteArray := prog_1_method_24_code
def yX4_requireLand : MethodName := ⟨RX4, "requireLand", "(I)V"⟩
abbrev cX4_requireRange : ByteArray := prog_1_method_25_code
def yX4_requireRange : MethodName := ⟨RX4, "requireRange", "(III)V"⟩
abbrev cX4_personNumbered : ByteArray := prog_1_method_26_code
def yX4_personNumbered : MethodName := ⟨RX4, "personNumbered", "(I)LRestitutory$Person;"⟩
abbrev cX4_thingNumbered : ByteArray := prog_1_method_27_code
def yX4_thingNumbered : MethodName := ⟨RX4, "thingNumbered", "(I)LRestitutory$Thing;"⟩
abbrev cX4_stationNumbered : ByteArray := prog_1_method_28_code
def yX4_stationNumbered : MethodName := ⟨RX4, "stationNumbered", "(II)LRestitutory$Station;"⟩
abbrev cX4_numberOf : ByteArray := prog_1_method_29_code
def yX4_numberOf : MethodName := ⟨RX4, "numberOf", "(LRestitutory$Person;)I"⟩
abbrev cX4_isDarkFor : ByteArray := prog_1_method_30_code
def yX4_isDarkFor : MethodName := ⟨RX4, "isDarkFor", "(LRestitutory$Person;II)Z"⟩
abbrev cX4_livingHeir : ByteArray := prog_1_method_31_code
def yX4_livingHeir : MethodName := ⟨RX4, "livingHeir", "(LRestitutory$Person;I)LRestitutory$Person;"⟩
abbrev cX4_livingFor : ByteArray := prog_1_method_32_code
def yX4_livingFor : MethodName := ⟨RX4, "livingFor", "(LRestitutory$Person;I)LRestitutory$Person;"⟩
abbrev cX4_takesAway : ByteArray := prog_1_method_33_code
def yX4_takesAway : MethodName := ⟨RX4, "takesAway", "(LRestitutory$Station;)Z"⟩
abbrev cX4_isKeptInGoodFaith : ByteArray := prog_1_method_34_code
def yX4_isKeptInGoodFaith : MethodName := ⟨RX4, "isKeptInGoodFaith", "(LRestitutory$Station;)Z"⟩
abbrev cX4_titleFromFirst : ByteArray := prog_1_method_35_code
def yX4_titleFromFirst : MethodName := ⟨RX4, "titleFromFirst", "(LRestitutory$Thing;)LRestitutory$Person;"⟩
abbrev cX4_bringsTitle : ByteArray := prog_1_method_36_code
def yX4_bringsTitle : MethodName := ⟨RX4, "bringsTitle", "(LRestitutory$Station;LRestitutory$Person;)Z"⟩
abbrev cX4_titleFromLast : ByteArray := prog_1_method_37_code
def yX4_titleFromLast : MethodName := ⟨RX4, "titleFromLast", "(LRestitutory$Thing;)LRestitutory$Person;"⟩
def RX5 : String := "RestitutoryModel"
def TX5 : u_T := fun k => match k with
  | 0 => ("RestitutoryModel", "now", "I", false)
  | 1 => ("RestitutoryModel", "groups", "[I", true)
  | 2 => ("RestitutoryModel", "dead", "[Z", true)
  | 3 => ("RestitutoryModel", "heirs", "[I", true)
  | 4 => ("RestitutoryModel", "heirMany", "[I", true)
  | 5 => ("RestitutoryModel", "people", "I", false)
  | 6 => ("RestitutoryModel", "persecutions", "[I", true)
  | 7 => ("RestitutoryModel", "manyPersecutions", "I", false)
  | 8 => ("RestitutoryModel", "faiths", "[I", true)
  | 9 => ("RestitutoryModel", "marks", "[I", true)
  | 10 => ("RestitutoryModel", "sizes", "[I", true)
  | 11 => ("RestitutoryModel", "stationMany", "[I", true)
  | 12 => ("RestitutoryModel", "things", "I", false)
  | 13 => ("RestitutoryModel", "parties", "[I", true)
  | 14 => ("RestitutoryModel", "kinds", "[I", true)
  | 15 => ("RestitutoryModel", "lands", "[I", true)
  | 16 => ("RestitutoryModel", "years", "[I", true)
  | 17 => ("RestitutoryModel", "rebutted", "[Z", true)
  | 18 => ("RestitutoryModel", "settled", "[Z", true)
  | 19 => ("RestitutoryModel", "order", "[I", true)
  | _ => ("RestitutoryModel", "last", "I", false)
def tyX5 : Nat → FieldType := fun k => match k with
  | 0 => .int
  | 1 => .array .int
  | 2 => .array .boolean
  | 3 => .array .int
  | 4 => .array .int
  | 5 => .int
  | 6 => .array .int
  | 7 => .int
  | 8 => .array .int
  | 9 => .array .int
  | 10 => .array .int
  | 11 => .array .int
  | 12 => .int
  | 13 => .array .int
  | 14 => .array .int
  | 15 => .array .int
  | 16 => .array .int
  | 17 => .array .boolean
  | 18 => .array .boolean
  | 19 => .array .int
  | _ => .int
abbrev wsX50 : List Cond := u_ws RX5 TX5 21
theorem nmX5 : ∀ a, a < 21 → ∀ b, b < 21 → a ≠ b → (TX5 a).2.1 ≠ (TX5 b).2.1 := by decide +kernel
theorem tyX5_ok : ∀ k, k < 21 → parseFieldDescriptor (TX5 k).2.2.1 = some (tyX5 k) := by decide +kernel
abbrev cX5_init : ByteArray := prog_7_method_1_code
def yX5_init : MethodName := ⟨RX5, "<init>", "()V"⟩
abbrev cX5_thrown : ByteArray := prog_7_method_2_code
def yX5_thrown : MethodName := ⟨RX5, "thrown", "()I"⟩
abbrev cX5_in : ByteArray := prog_7_method_3_code
def yX5_in : MethodName := ⟨RX5, "in", "(III)Z"⟩
abbrev cX5_goes : ByteArray := prog_7_method_4_code
def yX5_goes : MethodName := ⟨RX5, "goes", "(ZZZ)Z"⟩
abbrev cX5_isPerson : ByteArray := prog_7_method_5_code
def yX5_isPerson : MethodName := ⟨RX5, "isPerson", "(I)Z"⟩
abbrev cX5_isLand : ByteArray := prog_7_method_6_code
def yX5_isLand : MethodName := ⟨RX5, "isLand", "(I)Z"⟩
abbrev cX5_isThing : ByteArray := prog_7_method_7_code
def yX5_isThing : MethodName := ⟨RX5, "isThing", "(I)Z"⟩
abbrev cX5_isStation : ByteArray := prog_7_method_8_code
def yX5_isStation : MethodName := ⟨RX5, "isStation", "(II)Z"⟩
abbrev cX5_person : ByteArray := prog_7_method_9_code
def yX5_person : MethodName := ⟨RX5, "person", "(I)I"⟩
abbrev cX5_die : ByteArray := prog_7_method_10_code
def yX5_die : MethodName := ⟨RX5, "die", "(I)V"⟩
abbrev cX5_isHeir : ByteArray := prog_7_method_11_code
def yX5_isHeir : MethodName := ⟨RX5, "isHeir", "(II)Z"⟩
abbrev cX5_heir : ByteArray := prog_7_method_12_code
def yX5_heir : MethodName := ⟨RX5, "heir", "(II)I"⟩
abbrev cX5_persecution : ByteArray := prog_7_method_13_code
def yX5_persecution : MethodName := ⟨RX5, "persecution", "(IIII)I"⟩
abbrev cX5_faith : ByteArray := prog_7_method_14_code
def yX5_faith : MethodName := ⟨RX5, "faith", "(II)I"⟩
abbrev cX5_now : ByteArray := prog_7_method_15_code
def yX5_now : MethodName := ⟨RX5, "now", "(I)I"⟩
abbrev cX5_persecutes : ByteArray := prog_7_method_16_code
def yX5_persecutes : MethodName := ⟨RX5, "persecutes", "(III)Z"⟩
abbrev cX5_thing : ByteArray := prog_7_method_17_code
def yX5_thing : MethodName := ⟨RX5, "thing", "(II)I"⟩
abbrev cX5_mark : ByteArray := prog_7_method_18_code
def yX5_mark : MethodName := ⟨RX5, "mark", "(IIZ)Z"⟩
abbrev cX5_station : ByteArray := prog_7_method_19_code
def yX5_station : MethodName := ⟨RX5, "station", "(IIIII)I"⟩
abbrev cX5_rebut : ByteArray := prog_7_method_20_code
def yX5_rebut : MethodName := ⟨RX5, "rebut", "(IIZ)Z"⟩
abbrev cX5_settle : ByteArray := prog_7_method_21_code
def yX5_settle : MethodName := ⟨RX5, "settle", "(IIZ)Z"⟩
abbrev cX5_isPersecuted : ByteArray := prog_7_method_22_code
def yX5_isPersecuted : MethodName := ⟨RX5, "isPersecuted", "(III)Z"⟩
abbrev cX5_livingOf : ByteArray := prog_7_method_23_code
def yX5_livingOf : MethodName := ⟨RX5, "livingOf", "(I)I"⟩
abbrev cX5_nearOf : ByteArray := prog_7_method_24_code
def yX5_nearOf : MethodName := ⟨RX5, "nearOf", "(I)I"⟩
abbrev cX5_findsHeir : ByteArray := prog_7_method_25_code
def yX5_findsHeir : MethodName := ⟨RX5, "findsHeir", "(I)I"⟩
abbrev cX5_heirOf : ByteArray := prog_7_method_26_code
def yX5_heirOf : MethodName := ⟨RX5, "heirOf", "(I)I"⟩
abbrev cX5_bits : ByteArray := prog_7_method_27_code
def yX5_bits : MethodName := ⟨RX5, "bits", "(I)I"⟩
abbrev cX5_likes : ByteArray := prog_7_method_28_code
def yX5_likes : MethodName := ⟨RX5, "likes", "(II)I"⟩
abbrev cX5_likeness : ByteArray := prog_7_method_29_code
def yX5_likeness : MethodName := ⟨RX5, "likeness", "(II)I"⟩
abbrev cX5_likest : ByteArray := prog_7_method_30_code
def yX5_likest : MethodName := ⟨RX5, "likest", "(I)I"⟩
abbrev cX5_lays : ByteArray := prog_7_method_31_code
def yX5_lays : MethodName := ⟨RX5, "lays", "(I)I"⟩
abbrev cX5_stationAt : ByteArray := prog_7_method_32_code
def yX5_stationAt : MethodName := ⟨RX5, "stationAt", "(II)I"⟩
abbrev cX5_loses : ByteArray := prog_7_method_33_code
def yX5_loses : MethodName := ⟨RX5, "loses", "(II)Z"⟩
abbrev cX5_isLoss : ByteArray := prog_7_method_34_code
def yX5_isLoss : MethodName := ⟨RX5, "isLoss", "(II)Z"⟩
abbrev cX5_holderOf : ByteArray := prog_7_method_35_code
def yX5_holderOf : MethodName := ⟨RX5, "holderOf", "(I)I"⟩
abbrev cX5_holder : ByteArray := prog_7_method_36_code
def yX5_holder : MethodName := ⟨RX5, "holder", "(I)I"⟩
abbrev cX5_ownerOf : ByteArray := prog_7_method_37_code
def yX5_ownerOf : MethodName := ⟨RX5, "ownerOf", "(I)I"⟩
abbrev cX5_owner : ByteArray := prog_7_method_38_code
def yX5_owner : MethodName := ⟨RX5, "owner", "(I)I"⟩
abbrev cX5_ownerAnew : ByteArray := prog_7_method_39_code
def yX5_ownerAnew : MethodName := ⟨RX5, "ownerAnew", "(I)I"⟩
abbrev cX5_asks : ByteArray := prog_7_method_40_code
def yX5_asks : MethodName := ⟨RX5, "asks", "(I)I"⟩
def RJ6 : String := "java/lang/Integer"
def TJ6 : u_T := fun k => match k with
  | _ => ("", "", "", false)
def tyJ6 : Nat → FieldType := fun k => match k with
  | _ => .int
abbrev wsJ60 : List Cond := u_ws RJ6 TJ6 0
theorem nmJ6 : ∀ a, a < 0 → ∀ b, b < 0 → a ≠ b → (TJ6 a).2.1 ≠ (TJ6 b).2.1 := by decide +kernel
theorem tyJ6_ok : ∀ k, k < 0 → parseFieldDescriptor (TJ6 k).2.2.1 = some (tyJ6 k) := by decide +kernel
abbrev cJ6_bitCount_0f7a4 : ByteArray := prog_12_method_49_code
def yJ6_bitCount_0f7a4 : MethodName := ⟨RJ6, "bitCount", "(I)I"⟩
def RJ9 : String := "java/lang/Math"
def TJ9 : u_T := fun k => match k with
  | _ => ("", "", "", false)
def tyJ9 : Nat → FieldType := fun k => match k with
  | _ => .int
abbrev wsJ90 : List Cond := u_ws RJ9 TJ9 0
theorem nmJ9 : ∀ a, a < 0 → ∀ b, b < 0 → a ≠ b → (TJ9 a).2.1 ≠ (TJ9 b).2.1 := by decide +kernel
theorem tyJ9_ok : ∀ k, k < 0 → parseFieldDescriptor (TJ9 k).2.2.1 = some (tyJ9 k) := by decide +kernel
abbrev cJ9_abs_0f7a4 : ByteArray := prog_13_method_59_code
def yJ9_abs_0f7a4 : MethodName := ⟨RJ9, "abs", "(I)I"⟩
def RJ0 : String := "java/lang/String"
def TJ0 : u_T := fun k => match k with
  | _ => ("", "", "", false)
def tyJ0 : Nat → FieldType := fun k => match k with
  | _ => .int
abbrev wsJ00 : List Cond := u_ws RJ0 TJ0 0
theorem nmJ0 : ∀ a, a < 0 → ∀ b, b < 0 → a ≠ b → (TJ0 a).2.1 ≠ (TJ0 b).2.1 := by decide +kernel
theorem tyJ0_ok : ∀ k, k < 0 → parseFieldDescriptor (TJ0 k).2.2.1 = some (tyJ0 k) := by decide +kernel
def RL : String := "RestitutoryLaw"
abbrev cL_person : ByteArray := method_3_code
def yL_person : MethodName := ⟨RL, "person", "(LRestitutory;I[J)I"⟩
abbrev cL_die : ByteArray := method_4_code
def yL_die : MethodName := ⟨RL, "die", "(LRestitutory;I)I"⟩
abbrev cL_heir : ByteArray := method_5_code
def yL_heir : MethodName := ⟨RL, "heir", "(LRestitutory;II[J)I"⟩
abbrev cL_persecution : ByteArray := method_6_code
def yL_persecution : MethodName := ⟨RL, "persecution", "(LRestitutory;IIII[J)I"⟩
abbrev cL_faith : ByteArray := method_7_code
def yL_faith : MethodName := ⟨RL, "faith", "(LRestitutory;II[J)I"⟩
abbrev cL_now : ByteArray := method_8_code
def yL_now : MethodName := ⟨RL, "now", "(LRestitutory;I[J)I"⟩
abbrev cL_thing : ByteArray := method_9_code
def yL_thing : MethodName := ⟨RL, "thing", "(LRestitutory;II[J)I"⟩
abbrev cL_mark : ByteArray := method_10_code
def yL_mark : MethodName := ⟨RL, "mark", "(LRestitutory;IIZ[J)I"⟩
abbrev cL_station : ByteArray := method_11_code
def yL_station : MethodName := ⟨RL, "station", "(LRestitutory;IIIII[J)I"⟩
abbrev cL_rebut : ByteArray := method_12_code
def yL_rebut : MethodName := ⟨RL, "rebut", "(LRestitutory;IIZ[J)I"⟩
abbrev cL_settle : ByteArray := method_13_code
def yL_settle : MethodName := ⟨RL, "settle", "(LRestitutory;IIZ[J)I"⟩
abbrev cL_isPersecuted : ByteArray := method_14_code
def yL_isPersecuted : MethodName := ⟨RL, "isPersecuted", "(LRestitutory;III[J)I"⟩
abbrev cL_heirOf : ByteArray := method_15_code
def yL_heirOf : MethodName := ⟨RL, "heirOf", "(LRestitutory;I[J)I"⟩
abbrev cL_likeness : ByteArray := method_16_code
def yL_likeness : MethodName := ⟨RL, "likeness", "(LRestitutory;II[J)I"⟩
abbrev cL_likest : ByteArray := method_17_code
def yL_likest : MethodName := ⟨RL, "likest", "(LRestitutory;I[J)I"⟩
abbrev cL_stationAt : ByteArray := method_18_code
def yL_stationAt : MethodName := ⟨RL, "stationAt", "(LRestitutory;II[J)I"⟩
abbrev cL_isLoss : ByteArray := method_19_code
def yL_isLoss : MethodName := ⟨RL, "isLoss", "(LRestitutory;II[J)I"⟩
abbrev cL_holder : ByteArray := method_20_code
def yL_holder : MethodName := ⟨RL, "holder", "(LRestitutory;I[J)I"⟩
abbrev cL_owner : ByteArray := method_21_code
def yL_owner : MethodName := ⟨RL, "owner", "(LRestitutory;I[J)I"⟩
abbrev cL_ownerAnew : ByteArray := method_22_code
def yL_ownerAnew : MethodName := ⟨RL, "ownerAnew", "(LRestitutory;I[J)I"⟩
abbrev cL_asks : ByteArray := method_23_code
def yL_asks : MethodName := ⟨RL, "asks", "(LRestitutory;I[J)I"⟩
abbrev cL_law : ByteArray := code
def yL_law : MethodName := ⟨RL, "law", "([I)Z"⟩
def wsX0_init : List Cond := .code yX0_init cX0_init 5 none :: ([.methodLink RX0 1 objectInit, .instanceMethod objectInit, .code objectInit ⟨#[0xb1]⟩ 1 none, .fieldLink RX0 7 "Restitutory$Persecution" "group" "I", .fieldLink RX0 13 "Restitutory$Persecution" "land" "I", .fieldLink RX0 16 "Restitutory$Persecution" "from" "I", .fieldLink RX0 19 "Restitutory$Persecution" "to" "I"] ++ wsX00)
def wsX0_strikes : List Cond := .code yX0_strikes cX0_strikes 4 (some .boolean) :: ([.fieldLink RX0 7 "Restitutory$Persecution" "group" "I", .fieldLink RX0 13 "Restitutory$Persecution" "land" "I", .fieldLink RX0 16 "Restitutory$Persecution" "from" "I", .fieldLink RX0 19 "Restitutory$Persecution" "to" "I"] ++ wsX00)
def wsX1_init : List Cond := .code yX1_init cX1_init 3 none :: ([.methodLink RX1 3 objectInit, .instanceMethod objectInit, .code objectInit ⟨#[0xb1]⟩ 1 none, .classLink RX1 9 RX1, .fieldLink RX1 11 "Restitutory$Person" "heirs" "[LRestitutory$Person;", .fieldLink RX1 15 "Restitutory$Person" "number" "I", .fieldLink RX1 19 "Restitutory$Person" "group" "I"] ++ wsX10)
def wsX1_hasToldHeir : List Cond := .code yX1_hasToldHeir cX1_hasToldHeir 6 (some .boolean) :: ([.fieldLink RX1 11 "Restitutory$Person" "heirs" "[LRestitutory$Person;"] ++ wsX10)
def wsX2_init : List Cond := .code yX2_init cX2_init 6 none :: ([.methodLink RX2 1 objectInit, .instanceMethod objectInit, .code objectInit ⟨#[0xb1]⟩ 1 none, .fieldLink RX2 7 "Restitutory$Station" "number" "I", .fieldLink RX2 13 "Restitutory$Station" "party" "LRestitutory$Person;", .fieldLink RX2 17 "Restitutory$Station" "kind" "I", .fieldLink RX2 20 "Restitutory$Station" "land" "I", .fieldLink RX2 23 "Restitutory$Station" "year" "I"] ++ wsX20)
def wsX3_init : List Cond := .code yX3_init cX3_init 3 none :: ([.methodLink RX3 3 objectInit, .instanceMethod objectInit, .code objectInit ⟨#[0xb1]⟩ 1 none, .classLink RX3 9 RX2, .fieldLink RX3 11 "Restitutory$Thing" "stations" "[LRestitutory$Station;", .fieldLink RX3 17 "Restitutory$Thing" "marks" "I", .fieldLink RX3 21 "Restitutory$Thing" "size" "I"] ++ wsX30)
def wsJ6_bitCount_0f7a4 : List Cond := .code yJ6_bitCount_0f7a4 cJ6_bitCount_0f7a4 1 (some .int) :: ([.constant RJ6 265 (1431655765), .constant RJ6 266 (858993459), .constant RJ6 267 (252645135)])
def wsX3_likenessTo : List Cond := .code yX3_likenessTo cX3_likenessTo 4 (some .int) :: ([.fieldLink RX3 17 "Restitutory$Thing" "marks" "I", .fieldLink RX3 21 "Restitutory$Thing" "size" "I", .methodLink RX3 30 Lib.Math.abs.name, .static Lib.Math.abs.name, .initialized "java/lang/Math", .code Lib.Math.abs.name Lib.Math.abs.code 1 (some .int), .methodLink RX3 24 yJ6_bitCount_0f7a4, .static yJ6_bitCount_0f7a4, .initialized RJ6, .code yJ6_bitCount_0f7a4 cJ6_bitCount_0f7a4 1 (some .int), .constant RJ6 265 (1431655765), .constant RJ6 266 (858993459), .constant RJ6 267 (252645135)] ++ wsX30)
def wsX3_lastParty : List Cond := .code yX3_lastParty cX3_lastParty 1 (some (.object "Restitutory$Person")) :: ([.fieldLink RX3 35 "Restitutory$Thing" "last" "LRestitutory$Station;", .fieldLink RX3 39 "Restitutory$Station" "party" "LRestitutory$Person;"] ++ wsX30 ++ wsX20)
def wsX3_putInOrder : List Cond := .code yX3_putInOrder cX3_putInOrder 4 none :: ([.fieldLink RX3 35 "Restitutory$Thing" "last" "LRestitutory$Station;", .fieldLink RX3 43 "Restitutory$Station" "year" "I", .fieldLink RX3 46 "Restitutory$Station" "ahead" "LRestitutory$Station;", .fieldLink RX3 49 "Restitutory$Thing" "first" "LRestitutory$Station;", .fieldLink RX3 52 "Restitutory$Station" "next" "LRestitutory$Station;"] ++ wsX30 ++ wsX20)
def wsX4_init : List Cond := .code yX4_init cX4_init 1 none :: ([.methodLink RX4 1 objectInit, .instanceMethod objectInit, .code objectInit ⟨#[0xb1]⟩ 1 none, .classLink RX4 9 RX1, .fieldLink RX4 11 "Restitutory" "people" "[LRestitutory$Person;", .classLink RX4 15 RX0, .fieldLink RX4 17 "Restitutory" "persecutions" "[LRestitutory$Persecution;", .arrayClass .int, .fieldLink RX4 21 "Restitutory" "faithYears" "[I", .fieldLink RX4 25 "Restitutory" "currentYear" "I", .classLink RX4 29 RX3, .fieldLink RX4 31 "Restitutory" "things" "[LRestitutory$Thing;"] ++ wsX40)
def wsX4_requireGroup : List Cond := .code yX4_requireGroup cX4_requireGroup 1 none :: ([.classLink RX4 157 "java/lang/IndexOutOfBoundsException", .initialized "java/lang/IndexOutOfBoundsException"] ++ (vx_atS RX4 161 "java/lang/IndexOutOfBoundsException" ["java/lang/RuntimeException", "java/lang/Exception"]).filter goodWord)
def wsX4_person : List Cond := .code yX4_person cX4_person 3 (some .int) :: ([.classLink RX4 42 "java/lang/IllegalStateException", .initialized "java/lang/IllegalStateException", .fieldLink RX4 39 "Restitutory" "peopleCount" "I", .fieldLink RX4 11 "Restitutory" "people" "[LRestitutory$Person;", .classLink RX4 9 RX1, .instantiable RX1 6, .initialized RX1, .methodLink RX4 35 yX4_requireGroup, .static yX4_requireGroup, .initialized RX4, .code yX4_requireGroup cX4_requireGroup 1 none, .classLink RX4 157 "java/lang/IndexOutOfBoundsException", .initialized "java/lang/IndexOutOfBoundsException", .methodLink RX4 49 yX1_init, .instanceMethod yX1_init, .code yX1_init cX1_init 3 none, .methodLink RX1 3 objectInit, .instanceMethod objectInit, .code objectInit ⟨#[0xb1]⟩ 1 none, .classLink RX1 9 RX1, .fieldLink RX1 11 "Restitutory$Person" "heirs" "[LRestitutory$Person;", .fieldLink RX1 15 "Restitutory$Person" "number" "I", .fieldLink RX1 19 "Restitutory$Person" "group" "I"] ++ wsX40 ++ wsX10 ++ (vx_atS RX4 46 "java/lang/IllegalStateException" ["java/lang/RuntimeException", "java/lang/Exception"]).filter goodWord ++ (vx_atS RX4 161 "java/lang/IndexOutOfBoundsException" ["java/lang/RuntimeException", "java/lang/Exception"]).filter goodWord)
def wsX4_personNumbered : List Cond := .code yX4_personNumbered cX4_personNumbered 3 (some (.object "Restitutory$Person")) :: ([.classLink RX4 157 "java/lang/IndexOutOfBoundsException", .initialized "java/lang/IndexOutOfBoundsException", .fieldLink RX4 11 "Restitutory" "people" "[LRestitutory$Person;"] ++ wsX40 ++ (vx_atS RX4 161 "java/lang/IndexOutOfBoundsException" ["java/lang/RuntimeException", "java/lang/Exception"]).filter goodWord)
def wsX4_die : List Cond := .code yX4_die cX4_die 3 none :: ([.classLink RX4 42 "java/lang/IllegalStateException", .initialized "java/lang/IllegalStateException", .fieldLink RX4 56 "Restitutory$Person" "dead" "Z", .methodLink RX4 52 yX4_personNumbered, .instanceMethod yX4_personNumbered, .selects RX4 yX4_personNumbered yX4_personNumbered, .initialized RX4, .code yX4_personNumbered cX4_personNumbered 3 (some (.object "Restitutory$Person")), .classLink RX4 157 "java/lang/IndexOutOfBoundsException", .initialized "java/lang/IndexOutOfBoundsException", .fieldLink RX4 11 "Restitutory" "people" "[LRestitutory$Person;"] ++ wsX10 ++ wsX40 ++ (vx_atS RX4 46 "java/lang/IllegalStateException" ["java/lang/RuntimeException", "java/lang/Exception"]).filter goodWord ++ (vx_atS RX4 161 "java/lang/IndexOutOfBoundsException" ["java/lang/RuntimeException", "java/lang/Exception"]).filter goodWord)
def wsX4_heir : List Cond := .code yX4_heir cX4_heir 5 (some .int) :: ([.classLink RX4 62 "java/lang/IllegalArgumentException", .initialized "java/lang/IllegalArgumentException", .classLink RX4 42 "java/lang/IllegalStateException", .initialized "java/lang/IllegalStateException", .fieldLink RX4 71 "Restitutory$Person" "heirCount" "I", .fieldLink RX4 74 "Restitutory$Person" "heirs" "[LRestitutory$Person;", .methodLink RX4 52 yX4_personNumbered, .instanceMethod yX4_personNumbered, .selects RX4 yX4_personNumbered yX4_personNumbered, .initialized RX4, .code yX4_personNumbered cX4_personNumbered 3 (some (.object "Restitutory$Person")), .classLink RX4 157 "java/lang/IndexOutOfBoundsException", .initialized "java/lang/IndexOutOfBoundsException", .fieldLink RX4 11 "Restitutory" "people" "[LRestitutory$Person;", .methodLink RX4 67 yX1_hasToldHeir, .instanceMethod yX1_hasToldHeir, .selects RX1 yX1_hasToldHeir yX1_hasToldHeir, .initialized RX1, .code yX1_hasToldHeir cX1_hasToldHeir 6 (some .boolean), .fieldLink RX1 11 "Restitutory$Person" "heirs" "[LRestitutory$Person;"] ++ wsX10 ++ wsX40 ++ (vx_atS RX4 66 "java/lang/IllegalArgumentException" ["java/lang/RuntimeException", "java/lang/Exception"]).filter goodWord ++ (vx_atS RX4 46 "java/lang/IllegalStateException" ["java/lang/RuntimeException", "java/lang/Exception"]).filter goodWord ++ (vx_atS RX4 161 "java/lang/IndexOutOfBoundsException" ["java/lang/RuntimeException", "java/lang/Exception"]).filter goodWord)
def wsX4_requireLand : List Cond := .code yX4_requireLand cX4_requireLand 1 none :: ([.classLink RX4 157 "java/lang/IndexOutOfBoundsException", .initialized "java/lang/IndexOutOfBoundsException"] ++ (vx_atS RX4 161 "java/lang/IndexOutOfBoundsException" ["java/lang/RuntimeException", "java/lang/Exception"]).filter goodWord)
def wsX4_requireRange : List Cond := .code yX4_requireRange cX4_requireRange 3 none :: ([.classLink RX4 62 "java/lang/IllegalArgumentException", .initialized "java/lang/IllegalArgumentException"] ++ (vx_atS RX4 66 "java/lang/IllegalArgumentException" ["java/lang/RuntimeException", "java/lang/Exception"]).filter goodWord)
def wsX4_persecution_r1 : List Cond := [Cond.classLink RX4 42 "java/lang/IllegalStateException", Cond.initialized "java/lang/IllegalStateException", Cond.fieldLink RX4 86 "Restitutory" "persecutionCount" "I", Cond.fieldLink RX4 17 "Restitutory" "persecutions" "[LRestitutory$Persecution;", Cond.classLink RX4 15 RX0, Cond.instantiable RX0 4, Cond.initialized RX0, Cond.methodLink RX4 35 yX4_requireGroup, Cond.static yX4_requireGroup, Cond.initialized RX4, Cond.code yX4_requireGroup cX4_requireGroup 1 none, Cond.classLink RX4 157 "java/lang/IndexOutOfBoundsException", Cond.initialized "java/lang/IndexOutOfBoundsException", Cond.methodLink RX4 79 yX4_requireLand, Cond.static yX4_requireLand, Cond.code yX4_requireLand cX4_requireLand 1 none, Cond.methodLink RX4 82 yX4_requireRange, Cond.static yX4_requireRange, Cond.code yX4_requireRange cX4_requireRange 3 none, Cond.classLink RX4 62 "java/lang/IllegalArgumentException", Cond.initialized "java/lang/IllegalArgumentException", Cond.methodLink RX4 91 yX0_init, Cond.instanceMethod yX0_init, Cond.code yX0_init cX0_init 5 none]
def wsX4_persecution_r2 : List Cond := [Cond.methodLink RX0 1 objectInit, Cond.instanceMethod objectInit, Cond.code objectInit ⟨#[0xb1]⟩ 1 none, Cond.fieldLink RX0 7 "Restitutory$Persecution" "group" "I", Cond.fieldLink RX0 13 "Restitutory$Persecution" "land" "I", Cond.fieldLink RX0 16 "Restitutory$Persecution" "from" "I", Cond.fieldLink RX0 19 "Restitutory$Persecution" "to" "I"]
def wsX4_persecution : List Cond := .code yX4_persecution cX4_persecution 5 (some .int) :: ((wsX4_persecution_r1 ++ wsX4_persecution_r2) ++ wsX40 ++ wsX00 ++ (vx_atS RX4 46 "java/lang/IllegalStateException" ["java/lang/RuntimeException", "java/lang/Exception"]).filter goodWord ++ (vx_atS RX4 161 "java/lang/IndexOutOfBoundsException" ["java/lang/RuntimeException", "java/lang/Exception"]).filter goodWord ++ (vx_atS RX4 66 "java/lang/IllegalArgumentException" ["java/lang/RuntimeException", "java/lang/Exception"]).filter goodWord)
def wsX4_faith : List Cond := .code yX4_faith cX4_faith 4 (some .int) :: ([.fieldLink RX4 21 "Restitutory" "faithYears" "[I", .methodLink RX4 79 yX4_requireLand, .static yX4_requireLand, .initialized RX4, .code yX4_requireLand cX4_requireLand 1 none, .classLink RX4 157 "java/lang/IndexOutOfBoundsException", .initialized "java/lang/IndexOutOfBoundsException", .methodLink RX4 82 yX4_requireRange, .static yX4_requireRange, .code yX4_requireRange cX4_requireRange 3 none, .classLink RX4 62 "java/lang/IllegalArgumentException", .initialized "java/lang/IllegalArgumentException"] ++ wsX40 ++ (vx_atS RX4 161 "java/lang/IndexOutOfBoundsException" ["java/lang/RuntimeException", "java/lang/Exception"]).filter goodWord ++ (vx_atS RX4 66 "java/lang/IllegalArgumentException" ["java/lang/RuntimeException", "java/lang/Exception"]).filter goodWord)
def wsX4_now : List Cond := .code yX4_now cX4_now 3 (some .int) :: ([.fieldLink RX4 25 "Restitutory" "currentYear" "I", .methodLink RX4 82 yX4_requireRange, .static yX4_requireRange, .initialized RX4, .code yX4_requireRange cX4_requireRange 3 none, .classLink RX4 62 "java/lang/IllegalArgumentException", .initialized "java/lang/IllegalArgumentException"] ++ wsX40 ++ (vx_atS RX4 66 "java/lang/IllegalArgumentException" ["java/lang/RuntimeException", "java/lang/Exception"]).filter goodWord)
def wsX4_thing : List Cond := .code yX4_thing cX4_thing 4 (some .int) :: ([.classLink RX4 42 "java/lang/IllegalStateException", .initialized "java/lang/IllegalStateException", .constant RX4 94 (65535), .fieldLink RX4 95 "Restitutory" "thingCount" "I", .fieldLink RX4 31 "Restitutory" "things" "[LRestitutory$Thing;", .classLink RX4 29 RX3, .instantiable RX3 6, .initialized RX3, .methodLink RX4 82 yX4_requireRange, .static yX4_requireRange, .initialized RX4, .code yX4_requireRange cX4_requireRange 3 none, .classLink RX4 62 "java/lang/IllegalArgumentException", .initialized "java/lang/IllegalArgumentException", .methodLink RX4 100 yX3_init, .instanceMethod yX3_init, .code yX3_init cX3_init 3 none, .methodLink RX3 3 objectInit, .instanceMethod objectInit, .code objectInit ⟨#[0xb1]⟩ 1 none, .classLink RX3 9 RX2, .fieldLink RX3 11 "Restitutory$Thing" "stations" "[LRestitutory$Station;", .fieldLink RX3 17 "Restitutory$Thing" "marks" "I", .fieldLink RX3 21 "Restitutory$Thing" "size" "I"] ++ wsX40 ++ wsX30 ++ (vx_atS RX4 46 "java/lang/IllegalStateException" ["java/lang/RuntimeException", "java/lang/Exception"]).filter goodWord ++ (vx_atS RX4 66 "java/lang/IllegalArgumentException" ["java/lang/RuntimeException", "java/lang/Exception"]).filter goodWord)
def wsX4_thingNumbered : List Cond := .code yX4_thingNumbered cX4_thingNumbered 3 (some (.object "Restitutory$Thing")) :: ([.classLink RX4 157 "java/lang/IndexOutOfBoundsException", .initialized "java/lang/IndexOutOfBoundsException", .fieldLink RX4 31 "Restitutory" "things" "[LRestitutory$Thing;"] ++ wsX40 ++ (vx_atS RX4 161 "java/lang/IndexOutOfBoundsException" ["java/lang/RuntimeException", "java/lang/Exception"]).filter goodWord)
def wsX4_mark : List Cond := .code yX4_mark cX4_mark 7 (some .boolean) :: ([.fieldLink RX4 105 "Restitutory$Thing" "marks" "I", .methodLink RX4 101 yX4_thingNumbered, .instanceMethod yX4_thingNumbered, .selects RX4 yX4_thingNumbered yX4_thingNumbered, .initialized RX4, .code yX4_thingNumbered cX4_thingNumbered 3 (some (.object "Restitutory$Thing")), .classLink RX4 157 "java/lang/IndexOutOfBoundsException", .initialized "java/lang/IndexOutOfBoundsException", .fieldLink RX4 31 "Restitutory" "things" "[LRestitutory$Thing;", .methodLink RX4 82 yX4_requireRange, .static yX4_requireRange, .code yX4_requireRange cX4_requireRange 3 none, .classLink RX4 62 "java/lang/IllegalArgumentException", .initialized "java/lang/IllegalArgumentException"] ++ wsX30 ++ wsX40 ++ (vx_atS RX4 161 "java/lang/IndexOutOfBoundsException" ["java/lang/RuntimeException", "java/lang/Exception"]).filter goodWord ++ (vx_atS RX4 66 "java/lang/IllegalArgumentException" ["java/lang/RuntimeException", "java/lang/Exception"]).filter goodWord)
def wsX4_station_r1 : List Cond := [Cond.classLink RX4 42 "java/lang/IllegalStateException", Cond.initialized "java/lang/IllegalStateException", Cond.fieldLink RX4 25 "Restitutory" "currentYear" "I", Cond.fieldLink RX4 108 "Restitutory$Thing" "stationCount" "I", Cond.classLink RX4 113 RX2, Cond.instantiable RX2 9, Cond.initialized RX2, Cond.fieldLink RX4 118 "Restitutory$Thing" "stations" "[LRestitutory$Station;", Cond.methodLink RX4 101 yX4_thingNumbered, Cond.instanceMethod yX4_thingNumbered, Cond.selects RX4 yX4_thingNumbered yX4_thingNumbered, Cond.initialized RX4, Cond.code yX4_thingNumbered cX4_thingNumbered 3 (some (.object "Restitutory$Thing")), Cond.classLink RX4 157 "java/lang/IndexOutOfBoundsException", Cond.initialized "java/lang/IndexOutOfBoundsException", Cond.fieldLink RX4 31 "Restitutory" "things" "[LRestitutory$Thing;", Cond.methodLink RX4 52 yX4_personNumbered, Cond.instanceMethod yX4_personNumbered, Cond.selects RX4 yX4_personNumbered yX4_personNumbered, Cond.code yX4_personNumbered cX4_personNumbered 3 (some (.object "Restitutory$Person")), Cond.fieldLink RX4 11 "Restitutory" "people" "[LRestitutory$Person;", Cond.methodLink RX4 79 yX4_requireLand, Cond.static yX4_requireLand, Cond.code yX4_requireLand cX4_requireLand 1 none]
def wsX4_station_r2 : List Cond := [Cond.methodLink RX4 82 yX4_requireRange, Cond.static yX4_requireRange, Cond.code yX4_requireRange cX4_requireRange 3 none, Cond.classLink RX4 62 "java/lang/IllegalArgumentException", Cond.initialized "java/lang/IllegalArgumentException", Cond.methodLink RX4 115 yX2_init, Cond.instanceMethod yX2_init, Cond.code yX2_init cX2_init 6 none, Cond.methodLink RX2 1 objectInit, Cond.instanceMethod objectInit, Cond.code objectInit ⟨#[0xb1]⟩ 1 none, Cond.fieldLink RX2 7 "Restitutory$Station" "number" "I", Cond.fieldLink RX2 13 "Restitutory$Station" "party" "LRestitutory$Person;", Cond.fieldLink RX2 17 "Restitutory$Station" "kind" "I", Cond.fieldLink RX2 20 "Restitutory$Station" "land" "I", Cond.fieldLink RX2 23 "Restitutory$Station" "year" "I", Cond.methodLink RX4 122 yX3_putInOrder, Cond.instanceMethod yX3_putInOrder, Cond.selects RX3 yX3_putInOrder yX3_putInOrder, Cond.initialized RX3, Cond.code yX3_putInOrder cX3_putInOrder 4 none, Cond.fieldLink RX3 35 "Restitutory$Thing" "last" "LRestitutory$Station;", Cond.fieldLink RX3 43 "Restitutory$Station" "year" "I", Cond.fieldLink RX3 46 "Restitutory$Station" "ahead" "LRestitutory$Station;"]
def wsX4_station_r3 : List Cond := [Cond.fieldLink RX3 49 "Restitutory$Thing" "first" "LRestitutory$Station;", Cond.fieldLink RX3 52 "Restitutory$Station" "next" "LRestitutory$Station;"]
def wsX4_station : List Cond := .code yX4_station cX4_station 10 (some .int) :: ((wsX4_station_r1 ++ (wsX4_station_r2 ++ wsX4_station_r3)) ++ wsX40 ++ wsX30 ++ wsX20 ++ (vx_atS RX4 46 "java/lang/IllegalStateException" ["java/lang/RuntimeException", "java/lang/Exception"]).filter goodWord ++ (vx_atS RX4 161 "java/lang/IndexOutOfBoundsException" ["java/lang/RuntimeException", "java/lang/Exception"]).filter goodWord ++ (vx_atS RX4 66 "java/lang/IllegalArgumentException" ["java/lang/RuntimeException", "java/lang/Exception"]).filter goodWord)
def wsX4_stationNumbered : List Cond := .code yX4_stationNumbered cX4_stationNumbered 5 (some (.object "Restitutory$Station")) :: ([.classLink RX4 157 "java/lang/IndexOutOfBoundsException", .initialized "java/lang/IndexOutOfBoundsException", .fieldLink RX4 118 "Restitutory$Thing" "stations" "[LRestitutory$Station;", .methodLink RX4 101 yX4_thingNumbered, .instanceMethod yX4_thingNumbered, .selects RX4 yX4_thingNumbered yX4_thingNumbered, .initialized RX4, .code yX4_thingNumbered cX4_thingNumbered 3 (some (.object "Restitutory$Thing")), .fieldLink RX4 31 "Restitutory" "things" "[LRestitutory$Thing;"] ++ wsX30 ++ wsX40 ++ (vx_atS RX4 161 "java/lang/IndexOutOfBoundsException" ["java/lang/RuntimeException", "java/lang/Exception"]).filter goodWord)
def wsX4_rebut : List Cond := .code yX4_rebut cX4_rebut 6 (some .boolean) :: ([.classLink RX4 62 "java/lang/IllegalArgumentException", .initialized "java/lang/IllegalArgumentException", .fieldLink RX4 130 "Restitutory$Station" "kind" "I", .fieldLink RX4 135 "Restitutory$Station" "rebutted" "Z", .methodLink RX4 126 yX4_stationNumbered, .instanceMethod yX4_stationNumbered, .selects RX4 yX4_stationNumbered yX4_stationNumbered, .initialized RX4, .code yX4_stationNumbered cX4_stationNumbered 5 (some (.object "Restitutory$Station")), .classLink RX4 157 "java/lang/IndexOutOfBoundsException", .initialized "java/lang/IndexOutOfBoundsException", .fieldLink RX4 118 "Restitutory$Thing" "stations" "[LRestitutory$Station;", .methodLink RX4 101 yX4_thingNumbered, .instanceMethod yX4_thingNumbered, .selects RX4 yX4_thingNumbered yX4_thingNumbered, .code yX4_thingNumbered cX4_thingNumbered 3 (some (.object "Restitutory$Thing")), .fieldLink RX4 31 "Restitutory" "things" "[LRestitutory$Thing;"] ++ wsX20 ++ wsX30 ++ wsX40 ++ (vx_atS RX4 66 "java/lang/IllegalArgumentException" ["java/lang/RuntimeException", "java/lang/Exception"]).filter goodWord ++ (vx_atS RX4 161 "java/lang/IndexOutOfBoundsException" ["java/lang/RuntimeException", "java/lang/Exception"]).filter goodWord)
def wsX4_settle : List Cond := .code yX4_settle cX4_settle 6 (some .boolean) :: ([.fieldLink RX4 138 "Restitutory$Station" "settled" "Z", .methodLink RX4 126 yX4_stationNumbered, .instanceMethod yX4_stationNumbered, .selects RX4 yX4_stationNumbered yX4_stationNumbered, .initialized RX4, .code yX4_stationNumbered cX4_stationNumbered 5 (some (.object "Restitutory$Station")), .classLink RX4 157 "java/lang/IndexOutOfBoundsException", .initialized "java/lang/IndexOutOfBoundsException", .fieldLink RX4 118 "Restitutory$Thing" "stations" "[LRestitutory$Station;", .methodLink RX4 101 yX4_thingNumbered, .instanceMethod yX4_thingNumbered, .selects RX4 yX4_thingNumbered yX4_thingNumbered, .code yX4_thingNumbered cX4_thingNumbered 3 (some (.object "Restitutory$Thing")), .fieldLink RX4 31 "Restitutory" "things" "[LRestitutory$Thing;"] ++ wsX20 ++ wsX30 ++ wsX40 ++ (vx_atS RX4 161 "java/lang/IndexOutOfBoundsException" ["java/lang/RuntimeException", "java/lang/Exception"]).filter goodWord)
def wsX4_isDarkFor : List Cond := .code yX4_isDarkFor cX4_isDarkFor 8 (some .boolean) :: ([.fieldLink RX4 17 "Restitutory" "persecutions" "[LRestitutory$Persecution;", .fieldLink RX4 203 "Restitutory$Person" "group" "I", .methodLink RX4 206 yX0_strikes, .instanceMethod yX0_strikes, .selects RX0 yX0_strikes yX0_strikes, .initialized RX0, .code yX0_strikes cX0_strikes 4 (some .boolean), .fieldLink RX0 7 "Restitutory$Persecution" "group" "I", .fieldLink RX0 13 "Restitutory$Persecution" "land" "I", .fieldLink RX0 16 "Restitutory$Persecution" "from" "I", .fieldLink RX0 19 "Restitutory$Persecution" "to" "I"] ++ wsX40 ++ wsX10 ++ wsX00)
def wsX4_isPersecuted_r1 : List Cond := [Cond.methodLink RX4 52 yX4_personNumbered, Cond.instanceMethod yX4_personNumbered, Cond.selects RX4 yX4_personNumbered yX4_personNumbered, Cond.initialized RX4, Cond.code yX4_personNumbered cX4_personNumbered 3 (some (.object "Restitutory$Person")), Cond.classLink RX4 157 "java/lang/IndexOutOfBoundsException", Cond.initialized "java/lang/IndexOutOfBoundsException", Cond.fieldLink RX4 11 "Restitutory" "people" "[LRestitutory$Person;", Cond.methodLink RX4 79 yX4_requireLand, Cond.static yX4_requireLand, Cond.code yX4_requireLand cX4_requireLand 1 none, Cond.methodLink RX4 82 yX4_requireRange, Cond.static yX4_requireRange, Cond.code yX4_requireRange cX4_requireRange 3 none, Cond.classLink RX4 62 "java/lang/IllegalArgumentException", Cond.initialized "java/lang/IllegalArgumentException", Cond.methodLink RX4 141 yX4_isDarkFor, Cond.instanceMethod yX4_isDarkFor, Cond.selects RX4 yX4_isDarkFor yX4_isDarkFor, Cond.code yX4_isDarkFor cX4_isDarkFor 8 (some .boolean), Cond.fieldLink RX4 17 "Restitutory" "persecutions" "[LRestitutory$Persecution;", Cond.fieldLink RX4 203 "Restitutory$Person" "group" "I", Cond.methodLink RX4 206 yX0_strikes, Cond.instanceMethod yX0_strikes]
def wsX4_isPersecuted_r2 : List Cond := [Cond.selects RX0 yX0_strikes yX0_strikes, Cond.initialized RX0, Cond.code yX0_strikes cX0_strikes 4 (some .boolean), Cond.fieldLink RX0 7 "Restitutory$Persecution" "group" "I", Cond.fieldLink RX0 13 "Restitutory$Persecution" "land" "I", Cond.fieldLink RX0 16 "Restitutory$Persecution" "from" "I", Cond.fieldLink RX0 19 "Restitutory$Persecution" "to" "I"]
def wsX4_isPersecuted : List Cond := .code yX4_isPersecuted cX4_isPersecuted 5 (some .boolean) :: ((wsX4_isPersecuted_r1 ++ wsX4_isPersecuted_r2) ++ wsX40 ++ wsX10 ++ wsX00 ++ (vx_atS RX4 161 "java/lang/IndexOutOfBoundsException" ["java/lang/RuntimeException", "java/lang/Exception"]).filter goodWord ++ (vx_atS RX4 66 "java/lang/IllegalArgumentException" ["java/lang/RuntimeException", "java/lang/Exception"]).filter goodWord)
def wsX4_livingFor : List Cond := .code yX4_livingFor cX4_livingFor 2 (some (.object "Restitutory$Person")) :: ([.fieldLink RX4 56 "Restitutory$Person" "dead" "Z", .methodLink RX4 145 yX4_livingHeir, .static yX4_livingHeir, .initialized RX4, .code yX4_livingHeir cX4_livingHeir 7 (some (.object "Restitutory$Person")), .fieldLink RX4 74 "Restitutory$Person" "heirs" "[LRestitutory$Person;", .methodLink RX4 184 yX4_livingFor, .static yX4_livingFor] ++ wsX10)
def wsX4_livingHeir : List Cond := .code yX4_livingHeir cX4_livingHeir 7 (some (.object "Restitutory$Person")) :: ([.fieldLink RX4 74 "Restitutory$Person" "heirs" "[LRestitutory$Person;", .methodLink RX4 184 yX4_livingFor, .static yX4_livingFor, .initialized RX4, .code yX4_livingFor cX4_livingFor 2 (some (.object "Restitutory$Person")), .fieldLink RX4 56 "Restitutory$Person" "dead" "Z", .methodLink RX4 145 yX4_livingHeir, .static yX4_livingHeir] ++ wsX10)
def wsX4_numberOf : List Cond := .code yX4_numberOf cX4_numberOf 1 (some .int) :: ([.fieldLink RX4 202 "Restitutory$Person" "number" "I"] ++ wsX10)
def wsX4_heirOf : List Cond := .code yX4_heirOf cX4_heirOf 2 (some .int) :: ([.methodLink RX4 52 yX4_personNumbered, .instanceMethod yX4_personNumbered, .selects RX4 yX4_personNumbered yX4_personNumbered, .initialized RX4, .code yX4_personNumbered cX4_personNumbered 3 (some (.object "Restitutory$Person")), .classLink RX4 157 "java/lang/IndexOutOfBoundsException", .initialized "java/lang/IndexOutOfBoundsException", .fieldLink RX4 11 "Restitutory" "people" "[LRestitutory$Person;", .methodLink RX4 145 yX4_livingHeir, .static yX4_livingHeir, .code yX4_livingHeir cX4_livingHeir 7 (some (.object "Restitutory$Person")), .fieldLink RX4 74 "Restitutory$Person" "heirs" "[LRestitutory$Person;", .methodLink RX4 184 yX4_livingFor, .static yX4_livingFor, .code yX4_livingFor cX4_livingFor 2 (some (.object "Restitutory$Person")), .fieldLink RX4 56 "Restitutory$Person" "dead" "Z", .methodLink RX4 149 yX4_numberOf, .static yX4_numberOf, .code yX4_numberOf cX4_numberOf 1 (some .int), .fieldLink RX4 202 "Restitutory$Person" "number" "I"] ++ wsX40 ++ wsX10 ++ (vx_atS RX4 161 "java/lang/IndexOutOfBoundsException" ["java/lang/RuntimeException", "java/lang/Exception"]).filter goodWord)
def wsX4_likeness_r1 : List Cond := [Cond.methodLink RX4 101 yX4_thingNumbered, Cond.instanceMethod yX4_thingNumbered, Cond.selects RX4 yX4_thingNumbered yX4_thingNumbered, Cond.initialized RX4, Cond.code yX4_thingNumbered cX4_thingNumbered 3 (some (.object "Restitutory$Thing")), Cond.classLink RX4 157 "java/lang/IndexOutOfBoundsException", Cond.initialized "java/lang/IndexOutOfBoundsException", Cond.fieldLink RX4 31 "Restitutory" "things" "[LRestitutory$Thing;", Cond.methodLink RX4 153 yX3_likenessTo, Cond.instanceMethod yX3_likenessTo, Cond.selects RX3 yX3_likenessTo yX3_likenessTo, Cond.initialized RX3, Cond.code yX3_likenessTo cX3_likenessTo 4 (some .int), Cond.fieldLink RX3 17 "Restitutory$Thing" "marks" "I", Cond.fieldLink RX3 21 "Restitutory$Thing" "size" "I", Cond.methodLink RX3 30 Lib.Math.abs.name, Cond.static Lib.Math.abs.name, Cond.initialized "java/lang/Math", Cond.code Lib.Math.abs.name Lib.Math.abs.code 1 (some .int), Cond.methodLink RX3 24 yJ6_bitCount_0f7a4, Cond.static yJ6_bitCount_0f7a4, Cond.initialized RJ6, Cond.code yJ6_bitCount_0f7a4 cJ6_bitCount_0f7a4 1 (some .int), Cond.constant RJ6 265 (1431655765)]
def wsX4_likeness_r2 : List Cond := [Cond.constant RJ6 266 (858993459), Cond.constant RJ6 267 (252645135)]
def wsX4_likeness : List Cond := .code yX4_likeness cX4_likeness 3 (some .int) :: ((wsX4_likeness_r1 ++ wsX4_likeness_r2) ++ wsX40 ++ wsX30 ++ (vx_atS RX4 161 "java/lang/IndexOutOfBoundsException" ["java/lang/RuntimeException", "java/lang/Exception"]).filter goodWord)
def wsX4_likest_r1 : List Cond := [Cond.fieldLink RX4 31 "Restitutory" "things" "[LRestitutory$Thing;", Cond.methodLink RX4 101 yX4_thingNumbered, Cond.instanceMethod yX4_thingNumbered, Cond.selects RX4 yX4_thingNumbered yX4_thingNumbered, Cond.initialized RX4, Cond.code yX4_thingNumbered cX4_thingNumbered 3 (some (.object "Restitutory$Thing")), Cond.classLink RX4 157 "java/lang/IndexOutOfBoundsException", Cond.initialized "java/lang/IndexOutOfBoundsException", Cond.methodLink RX4 153 yX3_likenessTo, Cond.instanceMethod yX3_likenessTo, Cond.selects RX3 yX3_likenessTo yX3_likenessTo, Cond.initialized RX3, Cond.code yX3_likenessTo cX3_likenessTo 4 (some .int), Cond.fieldLink RX3 17 "Restitutory$Thing" "marks" "I", Cond.fieldLink RX3 21 "Restitutory$Thing" "size" "I", Cond.methodLink RX3 30 Lib.Math.abs.name, Cond.static Lib.Math.abs.name, Cond.initialized "java/lang/Math", Cond.code Lib.Math.abs.name Lib.Math.abs.code 1 (some .int), Cond.methodLink RX3 24 yJ6_bitCount_0f7a4, Cond.static yJ6_bitCount_0f7a4, Cond.initialized RJ6, Cond.code yJ6_bitCount_0f7a4 cJ6_bitCount_0f7a4 1 (some .int), Cond.constant RJ6 265 (1431655765)]
def wsX4_likest_r2 : List Cond := [Cond.constant RJ6 266 (858993459), Cond.constant RJ6 267 (252645135)]
def wsX4_likest : List Cond := .code yX4_likest cX4_likest 8 (some .int) :: ((wsX4_likest_r1 ++ wsX4_likest_r2) ++ wsX40 ++ wsX30 ++ (vx_atS RX4 161 "java/lang/IndexOutOfBoundsException" ["java/lang/RuntimeException", "java/lang/Exception"]).filter goodWord)
def wsX4_stationAt : List Cond := .code yX4_stationAt cX4_stationAt 6 (some .int) :: ([.classLink RX4 157 "java/lang/IndexOutOfBoundsException", .initialized "java/lang/IndexOutOfBoundsException", .fieldLink RX4 162 "Restitutory$Thing" "first" "LRestitutory$Station;", .fieldLink RX4 166 "Restitutory$Station" "next" "LRestitutory$Station;", .fieldLink RX4 169 "Restitutory$Station" "number" "I", .methodLink RX4 101 yX4_thingNumbered, .instanceMethod yX4_thingNumbered, .selects RX4 yX4_thingNumbered yX4_thingNumbered, .initialized RX4, .code yX4_thingNumbered cX4_thingNumbered 3 (some (.object "Restitutory$Thing")), .fieldLink RX4 31 "Restitutory" "things" "[LRestitutory$Thing;"] ++ wsX30 ++ wsX20 ++ wsX40 ++ (vx_atS RX4 161 "java/lang/IndexOutOfBoundsException" ["java/lang/RuntimeException", "java/lang/Exception"]).filter goodWord)
def wsX4_takesAway : List Cond := .code yX4_takesAway cX4_takesAway 3 (some .boolean) :: ([.fieldLink RX4 210 "Restitutory$Station" "ahead" "LRestitutory$Station;", .fieldLink RX4 130 "Restitutory$Station" "kind" "I", .fieldLink RX4 135 "Restitutory$Station" "rebutted" "Z", .fieldLink RX4 213 "Restitutory$Station" "party" "LRestitutory$Person;", .fieldLink RX4 217 "Restitutory$Station" "land" "I", .fieldLink RX4 220 "Restitutory$Station" "year" "I", .methodLink RX4 141 yX4_isDarkFor, .instanceMethod yX4_isDarkFor, .selects RX4 yX4_isDarkFor yX4_isDarkFor, .initialized RX4, .code yX4_isDarkFor cX4_isDarkFor 8 (some .boolean), .fieldLink RX4 17 "Restitutory" "persecutions" "[LRestitutory$Persecution;", .fieldLink RX4 203 "Restitutory$Person" "group" "I", .methodLink RX4 206 yX0_strikes, .instanceMethod yX0_strikes, .selects RX0 yX0_strikes yX0_strikes, .initialized RX0, .code yX0_strikes cX0_strikes 4 (some .boolean), .fieldLink RX0 7 "Restitutory$Persecution" "group" "I", .fieldLink RX0 13 "Restitutory$Persecution" "land" "I", .fieldLink RX0 16 "Restitutory$Persecution" "from" "I", .fieldLink RX0 19 "Restitutory$Persecution" "to" "I"] ++ wsX20 ++ wsX40 ++ wsX10 ++ wsX00)
def wsX4_isLoss_r1 : List Cond := [Cond.methodLink RX4 126 yX4_stationNumbered, Cond.instanceMethod yX4_stationNumbered, Cond.selects RX4 yX4_stationNumbered yX4_stationNumbered, Cond.initialized RX4, Cond.code yX4_stationNumbered cX4_stationNumbered 5 (some (.object "Restitutory$Station")), Cond.classLink RX4 157 "java/lang/IndexOutOfBoundsException", Cond.initialized "java/lang/IndexOutOfBoundsException", Cond.fieldLink RX4 118 "Restitutory$Thing" "stations" "[LRestitutory$Station;", Cond.methodLink RX4 101 yX4_thingNumbered, Cond.instanceMethod yX4_thingNumbered, Cond.selects RX4 yX4_thingNumbered yX4_thingNumbered, Cond.code yX4_thingNumbered cX4_thingNumbered 3 (some (.object "Restitutory$Thing")), Cond.fieldLink RX4 31 "Restitutory" "things" "[LRestitutory$Thing;", Cond.methodLink RX4 172 yX4_takesAway, Cond.instanceMethod yX4_takesAway, Cond.selects RX4 yX4_takesAway yX4_takesAway, Cond.code yX4_takesAway cX4_takesAway 3 (some .boolean), Cond.fieldLink RX4 210 "Restitutory$Station" "ahead" "LRestitutory$Station;", Cond.fieldLink RX4 130 "Restitutory$Station" "kind" "I", Cond.fieldLink RX4 135 "Restitutory$Station" "rebutted" "Z", Cond.fieldLink RX4 213 "Restitutory$Station" "party" "LRestitutory$Person;", Cond.fieldLink RX4 217 "Restitutory$Station" "land" "I", Cond.fieldLink RX4 220 "Restitutory$Station" "year" "I", Cond.methodLink RX4 141 yX4_isDarkFor]
def wsX4_isLoss_r2 : List Cond := [Cond.instanceMethod yX4_isDarkFor, Cond.selects RX4 yX4_isDarkFor yX4_isDarkFor, Cond.code yX4_isDarkFor cX4_isDarkFor 8 (some .boolean), Cond.fieldLink RX4 17 "Restitutory" "persecutions" "[LRestitutory$Persecution;", Cond.fieldLink RX4 203 "Restitutory$Person" "group" "I", Cond.methodLink RX4 206 yX0_strikes, Cond.instanceMethod yX0_strikes, Cond.selects RX0 yX0_strikes yX0_strikes, Cond.initialized RX0, Cond.code yX0_strikes cX0_strikes 4 (some .boolean), Cond.fieldLink RX0 7 "Restitutory$Persecution" "group" "I", Cond.fieldLink RX0 13 "Restitutory$Persecution" "land" "I", Cond.fieldLink RX0 16 "Restitutory$Persecution" "from" "I", Cond.fieldLink RX0 19 "Restitutory$Persecution" "to" "I"]
def wsX4_isLoss : List Cond := .code yX4_isLoss cX4_isLoss 3 (some .boolean) :: ((wsX4_isLoss_r1 ++ wsX4_isLoss_r2) ++ wsX30 ++ wsX40 ++ wsX20 ++ wsX10 ++ wsX00 ++ (vx_atS RX4 161 "java/lang/IndexOutOfBoundsException" ["java/lang/RuntimeException", "java/lang/Exception"]).filter goodWord)
def wsX4_holder : List Cond := .code yX4_holder cX4_holder 2 (some .int) :: ([.methodLink RX4 101 yX4_thingNumbered, .instanceMethod yX4_thingNumbered, .selects RX4 yX4_thingNumbered yX4_thingNumbered, .initialized RX4, .code yX4_thingNumbered cX4_thingNumbered 3 (some (.object "Restitutory$Thing")), .classLink RX4 157 "java/lang/IndexOutOfBoundsException", .initialized "java/lang/IndexOutOfBoundsException", .fieldLink RX4 31 "Restitutory" "things" "[LRestitutory$Thing;", .methodLink RX4 176 yX3_lastParty, .instanceMethod yX3_lastParty, .selects RX3 yX3_lastParty yX3_lastParty, .initialized RX3, .code yX3_lastParty cX3_lastParty 1 (some (.object "Restitutory$Person")), .fieldLink RX3 35 "Restitutory$Thing" "last" "LRestitutory$Station;", .fieldLink RX3 39 "Restitutory$Station" "party" "LRestitutory$Person;", .methodLink RX4 149 yX4_numberOf, .static yX4_numberOf, .code yX4_numberOf cX4_numberOf 1 (some .int), .fieldLink RX4 202 "Restitutory$Person" "number" "I"] ++ wsX40 ++ wsX30 ++ wsX20 ++ wsX10 ++ (vx_atS RX4 161 "java/lang/IndexOutOfBoundsException" ["java/lang/RuntimeException", "java/lang/Exception"]).filter goodWord)
def wsX4_isKeptInGoodFaith : List Cond := .code yX4_isKeptInGoodFaith cX4_isKeptInGoodFaith 4 (some .boolean) :: ([.fieldLink RX4 21 "Restitutory" "faithYears" "[I", .fieldLink RX4 217 "Restitutory$Station" "land" "I", .fieldLink RX4 166 "Restitutory$Station" "next" "LRestitutory$Station;", .fieldLink RX4 25 "Restitutory" "currentYear" "I", .fieldLink RX4 220 "Restitutory$Station" "year" "I", .fieldLink RX4 130 "Restitutory$Station" "kind" "I"] ++ wsX40 ++ wsX20)
def wsX4_bringsTitle_r1 : List Cond := [Cond.fieldLink RX4 138 "Restitutory$Station" "settled" "Z", Cond.fieldLink RX4 210 "Restitutory$Station" "ahead" "LRestitutory$Station;", Cond.fieldLink RX4 213 "Restitutory$Station" "party" "LRestitutory$Person;", Cond.methodLink RX4 172 yX4_takesAway, Cond.instanceMethod yX4_takesAway, Cond.selects RX4 yX4_takesAway yX4_takesAway, Cond.initialized RX4, Cond.code yX4_takesAway cX4_takesAway 3 (some .boolean), Cond.fieldLink RX4 130 "Restitutory$Station" "kind" "I", Cond.fieldLink RX4 135 "Restitutory$Station" "rebutted" "Z", Cond.fieldLink RX4 217 "Restitutory$Station" "land" "I", Cond.fieldLink RX4 220 "Restitutory$Station" "year" "I", Cond.methodLink RX4 141 yX4_isDarkFor, Cond.instanceMethod yX4_isDarkFor, Cond.selects RX4 yX4_isDarkFor yX4_isDarkFor, Cond.code yX4_isDarkFor cX4_isDarkFor 8 (some .boolean), Cond.fieldLink RX4 17 "Restitutory" "persecutions" "[LRestitutory$Persecution;", Cond.fieldLink RX4 203 "Restitutory$Person" "group" "I", Cond.methodLink RX4 206 yX0_strikes, Cond.instanceMethod yX0_strikes, Cond.selects RX0 yX0_strikes yX0_strikes, Cond.initialized RX0, Cond.code yX0_strikes cX0_strikes 4 (some .boolean), Cond.fieldLink RX0 7 "Restitutory$Persecution" "group" "I"]
def wsX4_bringsTitle_r2 : List Cond := [Cond.fieldLink RX0 13 "Restitutory$Persecution" "land" "I", Cond.fieldLink RX0 16 "Restitutory$Persecution" "from" "I", Cond.fieldLink RX0 19 "Restitutory$Persecution" "to" "I", Cond.methodLink RX4 227 yX4_isKeptInGoodFaith, Cond.instanceMethod yX4_isKeptInGoodFaith, Cond.selects RX4 yX4_isKeptInGoodFaith yX4_isKeptInGoodFaith, Cond.code yX4_isKeptInGoodFaith cX4_isKeptInGoodFaith 4 (some .boolean), Cond.fieldLink RX4 21 "Restitutory" "faithYears" "[I", Cond.fieldLink RX4 166 "Restitutory$Station" "next" "LRestitutory$Station;", Cond.fieldLink RX4 25 "Restitutory" "currentYear" "I"]
def wsX4_bringsTitle : List Cond := .code yX4_bringsTitle cX4_bringsTitle 4 (some .boolean) :: ((wsX4_bringsTitle_r1 ++ wsX4_bringsTitle_r2) ++ wsX20 ++ wsX40 ++ wsX10 ++ wsX00)
def wsX4_titleFromFirst_r1 : List Cond := [Cond.fieldLink RX4 162 "Restitutory$Thing" "first" "LRestitutory$Station;", Cond.fieldLink RX4 213 "Restitutory$Station" "party" "LRestitutory$Person;", Cond.fieldLink RX4 166 "Restitutory$Station" "next" "LRestitutory$Station;", Cond.methodLink RX4 223 yX4_bringsTitle, Cond.instanceMethod yX4_bringsTitle, Cond.selects RX4 yX4_bringsTitle yX4_bringsTitle, Cond.initialized RX4, Cond.code yX4_bringsTitle cX4_bringsTitle 4 (some .boolean), Cond.fieldLink RX4 138 "Restitutory$Station" "settled" "Z", Cond.fieldLink RX4 210 "Restitutory$Station" "ahead" "LRestitutory$Station;", Cond.methodLink RX4 172 yX4_takesAway, Cond.instanceMethod yX4_takesAway, Cond.selects RX4 yX4_takesAway yX4_takesAway, Cond.code yX4_takesAway cX4_takesAway 3 (some .boolean), Cond.fieldLink RX4 130 "Restitutory$Station" "kind" "I", Cond.fieldLink RX4 135 "Restitutory$Station" "rebutted" "Z", Cond.fieldLink RX4 217 "Restitutory$Station" "land" "I", Cond.fieldLink RX4 220 "Restitutory$Station" "year" "I", Cond.methodLink RX4 141 yX4_isDarkFor, Cond.instanceMethod yX4_isDarkFor, Cond.selects RX4 yX4_isDarkFor yX4_isDarkFor, Cond.code yX4_isDarkFor cX4_isDarkFor 8 (some .boolean), Cond.fieldLink RX4 17 "Restitutory" "persecutions" "[LRestitutory$Persecution;", Cond.fieldLink RX4 203 "Restitutory$Person" "group" "I"]
def wsX4_titleFromFirst_r2 : List Cond := [Cond.methodLink RX4 206 yX0_strikes, Cond.instanceMethod yX0_strikes, Cond.selects RX0 yX0_strikes yX0_strikes, Cond.initialized RX0, Cond.code yX0_strikes cX0_strikes 4 (some .boolean), Cond.fieldLink RX0 7 "Restitutory$Persecution" "group" "I", Cond.fieldLink RX0 13 "Restitutory$Persecution" "land" "I", Cond.fieldLink RX0 16 "Restitutory$Persecution" "from" "I", Cond.fieldLink RX0 19 "Restitutory$Persecution" "to" "I", Cond.methodLink RX4 227 yX4_isKeptInGoodFaith, Cond.instanceMethod yX4_isKeptInGoodFaith, Cond.selects RX4 yX4_isKeptInGoodFaith yX4_isKeptInGoodFaith, Cond.code yX4_isKeptInGoodFaith cX4_isKeptInGoodFaith 4 (some .boolean), Cond.fieldLink RX4 21 "Restitutory" "faithYears" "[I", Cond.fieldLink RX4 25 "Restitutory" "currentYear" "I"]
def wsX4_titleFromFirst : List Cond := .code yX4_titleFromFirst cX4_titleFromFirst 4 (some (.object "Restitutory$Person")) :: ((wsX4_titleFromFirst_r1 ++ wsX4_titleFromFirst_r2) ++ wsX30 ++ wsX20 ++ wsX40 ++ wsX10 ++ wsX00)
def wsX4_owner_r1 : List Cond := [Cond.methodLink RX4 101 yX4_thingNumbered, Cond.instanceMethod yX4_thingNumbered, Cond.selects RX4 yX4_thingNumbered yX4_thingNumbered, Cond.initialized RX4, Cond.code yX4_thingNumbered cX4_thingNumbered 3 (some (.object "Restitutory$Thing")), Cond.classLink RX4 157 "java/lang/IndexOutOfBoundsException", Cond.initialized "java/lang/IndexOutOfBoundsException", Cond.fieldLink RX4 31 "Restitutory" "things" "[LRestitutory$Thing;", Cond.methodLink RX4 180 yX4_titleFromFirst, Cond.instanceMethod yX4_titleFromFirst, Cond.selects RX4 yX4_titleFromFirst yX4_titleFromFirst, Cond.code yX4_titleFromFirst cX4_titleFromFirst 4 (some (.object "Restitutory$Person")), Cond.fieldLink RX4 162 "Restitutory$Thing" "first" "LRestitutory$Station;", Cond.fieldLink RX4 213 "Restitutory$Station" "party" "LRestitutory$Person;", Cond.fieldLink RX4 166 "Restitutory$Station" "next" "LRestitutory$Station;", Cond.methodLink RX4 223 yX4_bringsTitle, Cond.instanceMethod yX4_bringsTitle, Cond.selects RX4 yX4_bringsTitle yX4_bringsTitle, Cond.code yX4_bringsTitle cX4_bringsTitle 4 (some .boolean), Cond.fieldLink RX4 138 "Restitutory$Station" "settled" "Z", Cond.fieldLink RX4 210 "Restitutory$Station" "ahead" "LRestitutory$Station;", Cond.methodLink RX4 172 yX4_takesAway, Cond.instanceMethod yX4_takesAway, Cond.selects RX4 yX4_takesAway yX4_takesAway]
def wsX4_owner_r2 : List Cond := [Cond.code yX4_takesAway cX4_takesAway 3 (some .boolean), Cond.fieldLink RX4 130 "Restitutory$Station" "kind" "I", Cond.fieldLink RX4 135 "Restitutory$Station" "rebutted" "Z", Cond.fieldLink RX4 217 "Restitutory$Station" "land" "I", Cond.fieldLink RX4 220 "Restitutory$Station" "year" "I", Cond.methodLink RX4 141 yX4_isDarkFor, Cond.instanceMethod yX4_isDarkFor, Cond.selects RX4 yX4_isDarkFor yX4_isDarkFor, Cond.code yX4_isDarkFor cX4_isDarkFor 8 (some .boolean), Cond.fieldLink RX4 17 "Restitutory" "persecutions" "[LRestitutory$Persecution;", Cond.fieldLink RX4 203 "Restitutory$Person" "group" "I", Cond.methodLink RX4 206 yX0_strikes, Cond.instanceMethod yX0_strikes, Cond.selects RX0 yX0_strikes yX0_strikes, Cond.initialized RX0, Cond.code yX0_strikes cX0_strikes 4 (some .boolean), Cond.fieldLink RX0 7 "Restitutory$Persecution" "group" "I", Cond.fieldLink RX0 13 "Restitutory$Persecution" "land" "I", Cond.fieldLink RX0 16 "Restitutory$Persecution" "from" "I", Cond.fieldLink RX0 19 "Restitutory$Persecution" "to" "I", Cond.methodLink RX4 227 yX4_isKeptInGoodFaith, Cond.instanceMethod yX4_isKeptInGoodFaith, Cond.selects RX4 yX4_isKeptInGoodFaith yX4_isKeptInGoodFaith, Cond.code yX4_isKeptInGoodFaith cX4_isKeptInGoodFaith 4 (some .boolean)]
def wsX4_owner_r3 : List Cond := [Cond.fieldLink RX4 21 "Restitutory" "faithYears" "[I", Cond.fieldLink RX4 25 "Restitutory" "currentYear" "I", Cond.methodLink RX4 184 yX4_livingFor, Cond.static yX4_livingFor, Cond.code yX4_livingFor cX4_livingFor 2 (some (.object "Restitutory$Person")), Cond.fieldLink RX4 56 "Restitutory$Person" "dead" "Z", Cond.methodLink RX4 145 yX4_livingHeir, Cond.static yX4_livingHeir, Cond.code yX4_livingHeir cX4_livingHeir 7 (some (.object "Restitutory$Person")), Cond.fieldLink RX4 74 "Restitutory$Person" "heirs" "[LRestitutory$Person;", Cond.methodLink RX4 149 yX4_numberOf, Cond.static yX4_numberOf, Cond.code yX4_numberOf cX4_numberOf 1 (some .int), Cond.fieldLink RX4 202 "Restitutory$Person" "number" "I"]
def wsX4_owner : List Cond := .code yX4_owner cX4_owner 2 (some .int) :: ((wsX4_owner_r1 ++ (wsX4_owner_r2 ++ wsX4_owner_r3)) ++ wsX40 ++ wsX30 ++ wsX20 ++ wsX10 ++ wsX00 ++ (vx_atS RX4 161 "java/lang/IndexOutOfBoundsException" ["java/lang/RuntimeException", "java/lang/Exception"]).filter goodWord)
def wsX4_titleFromLast_r1 : List Cond := [Cond.fieldLink RX4 230 "Restitutory$Thing" "last" "LRestitutory$Station;", Cond.fieldLink RX4 213 "Restitutory$Station" "party" "LRestitutory$Person;", Cond.fieldLink RX4 233 "Restitutory$Person" "titleEndsWith" "LRestitutory$Person;", Cond.fieldLink RX4 210 "Restitutory$Station" "ahead" "LRestitutory$Station;", Cond.fieldLink RX4 138 "Restitutory$Station" "settled" "Z", Cond.methodLink RX4 172 yX4_takesAway, Cond.instanceMethod yX4_takesAway, Cond.selects RX4 yX4_takesAway yX4_takesAway, Cond.initialized RX4, Cond.code yX4_takesAway cX4_takesAway 3 (some .boolean), Cond.fieldLink RX4 130 "Restitutory$Station" "kind" "I", Cond.fieldLink RX4 135 "Restitutory$Station" "rebutted" "Z", Cond.fieldLink RX4 217 "Restitutory$Station" "land" "I", Cond.fieldLink RX4 220 "Restitutory$Station" "year" "I", Cond.methodLink RX4 141 yX4_isDarkFor, Cond.instanceMethod yX4_isDarkFor, Cond.selects RX4 yX4_isDarkFor yX4_isDarkFor, Cond.code yX4_isDarkFor cX4_isDarkFor 8 (some .boolean), Cond.fieldLink RX4 17 "Restitutory" "persecutions" "[LRestitutory$Persecution;", Cond.fieldLink RX4 203 "Restitutory$Person" "group" "I", Cond.methodLink RX4 206 yX0_strikes, Cond.instanceMethod yX0_strikes, Cond.selects RX0 yX0_strikes yX0_strikes, Cond.initialized RX0]
def wsX4_titleFromLast_r2 : List Cond := [Cond.code yX0_strikes cX0_strikes 4 (some .boolean), Cond.fieldLink RX0 7 "Restitutory$Persecution" "group" "I", Cond.fieldLink RX0 13 "Restitutory$Persecution" "land" "I", Cond.fieldLink RX0 16 "Restitutory$Persecution" "from" "I", Cond.fieldLink RX0 19 "Restitutory$Persecution" "to" "I", Cond.methodLink RX4 227 yX4_isKeptInGoodFaith, Cond.instanceMethod yX4_isKeptInGoodFaith, Cond.selects RX4 yX4_isKeptInGoodFaith yX4_isKeptInGoodFaith, Cond.code yX4_isKeptInGoodFaith cX4_isKeptInGoodFaith 4 (some .boolean), Cond.fieldLink RX4 21 "Restitutory" "faithYears" "[I", Cond.fieldLink RX4 166 "Restitutory$Station" "next" "LRestitutory$Station;", Cond.fieldLink RX4 25 "Restitutory" "currentYear" "I"]
def wsX4_titleFromLast : List Cond := .code yX4_titleFromLast cX4_titleFromLast 4 (some (.object "Restitutory$Person")) :: ((wsX4_titleFromLast_r1 ++ wsX4_titleFromLast_r2) ++ wsX30 ++ wsX20 ++ wsX10 ++ wsX40 ++ wsX00)
def wsX4_ownerAnew_r1 : List Cond := [Cond.methodLink RX4 101 yX4_thingNumbered, Cond.instanceMethod yX4_thingNumbered, Cond.selects RX4 yX4_thingNumbered yX4_thingNumbered, Cond.initialized RX4, Cond.code yX4_thingNumbered cX4_thingNumbered 3 (some (.object "Restitutory$Thing")), Cond.classLink RX4 157 "java/lang/IndexOutOfBoundsException", Cond.initialized "java/lang/IndexOutOfBoundsException", Cond.fieldLink RX4 31 "Restitutory" "things" "[LRestitutory$Thing;", Cond.methodLink RX4 187 yX4_titleFromLast, Cond.instanceMethod yX4_titleFromLast, Cond.selects RX4 yX4_titleFromLast yX4_titleFromLast, Cond.code yX4_titleFromLast cX4_titleFromLast 4 (some (.object "Restitutory$Person")), Cond.fieldLink RX4 230 "Restitutory$Thing" "last" "LRestitutory$Station;", Cond.fieldLink RX4 213 "Restitutory$Station" "party" "LRestitutory$Person;", Cond.fieldLink RX4 233 "Restitutory$Person" "titleEndsWith" "LRestitutory$Person;", Cond.fieldLink RX4 210 "Restitutory$Station" "ahead" "LRestitutory$Station;", Cond.fieldLink RX4 138 "Restitutory$Station" "settled" "Z", Cond.methodLink RX4 172 yX4_takesAway, Cond.instanceMethod yX4_takesAway, Cond.selects RX4 yX4_takesAway yX4_takesAway, Cond.code yX4_takesAway cX4_takesAway 3 (some .boolean), Cond.fieldLink RX4 130 "Restitutory$Station" "kind" "I", Cond.fieldLink RX4 135 "Restitutory$Station" "rebutted" "Z", Cond.fieldLink RX4 217 "Restitutory$Station" "land" "I"]
def wsX4_ownerAnew_r2 : List Cond := [Cond.fieldLink RX4 220 "Restitutory$Station" "year" "I", Cond.methodLink RX4 141 yX4_isDarkFor, Cond.instanceMethod yX4_isDarkFor, Cond.selects RX4 yX4_isDarkFor yX4_isDarkFor, Cond.code yX4_isDarkFor cX4_isDarkFor 8 (some .boolean), Cond.fieldLink RX4 17 "Restitutory" "persecutions" "[LRestitutory$Persecution;", Cond.fieldLink RX4 203 "Restitutory$Person" "group" "I", Cond.methodLink RX4 206 yX0_strikes, Cond.instanceMethod yX0_strikes, Cond.selects RX0 yX0_strikes yX0_strikes, Cond.initialized RX0, Cond.code yX0_strikes cX0_strikes 4 (some .boolean), Cond.fieldLink RX0 7 "Restitutory$Persecution" "group" "I", Cond.fieldLink RX0 13 "Restitutory$Persecution" "land" "I", Cond.fieldLink RX0 16 "Restitutory$Persecution" "from" "I", Cond.fieldLink RX0 19 "Restitutory$Persecution" "to" "I", Cond.methodLink RX4 227 yX4_isKeptInGoodFaith, Cond.instanceMethod yX4_isKeptInGoodFaith, Cond.selects RX4 yX4_isKeptInGoodFaith yX4_isKeptInGoodFaith, Cond.code yX4_isKeptInGoodFaith cX4_isKeptInGoodFaith 4 (some .boolean), Cond.fieldLink RX4 21 "Restitutory" "faithYears" "[I", Cond.fieldLink RX4 166 "Restitutory$Station" "next" "LRestitutory$Station;", Cond.fieldLink RX4 25 "Restitutory" "currentYear" "I", Cond.methodLink RX4 184 yX4_livingFor]
def wsX4_ownerAnew_r3 : List Cond := [Cond.static yX4_livingFor, Cond.code yX4_livingFor cX4_livingFor 2 (some (.object "Restitutory$Person")), Cond.fieldLink RX4 56 "Restitutory$Person" "dead" "Z", Cond.methodLink RX4 145 yX4_livingHeir, Cond.static yX4_livingHeir, Cond.code yX4_livingHeir cX4_livingHeir 7 (some (.object "Restitutory$Person")), Cond.fieldLink RX4 74 "Restitutory$Person" "heirs" "[LRestitutory$Person;", Cond.methodLink RX4 149 yX4_numberOf, Cond.static yX4_numberOf, Cond.code yX4_numberOf cX4_numberOf 1 (some .int), Cond.fieldLink RX4 202 "Restitutory$Person" "number" "I"]
def wsX4_ownerAnew : List Cond := .code yX4_ownerAnew cX4_ownerAnew 2 (some .int) :: ((wsX4_ownerAnew_r1 ++ (wsX4_ownerAnew_r2 ++ wsX4_ownerAnew_r3)) ++ wsX40 ++ wsX30 ++ wsX20 ++ wsX10 ++ wsX00 ++ (vx_atS RX4 161 "java/lang/IndexOutOfBoundsException" ["java/lang/RuntimeException", "java/lang/Exception"]).filter goodWord)
def wsX4_asks_r1 : List Cond := [Cond.fieldLink RX4 31 "Restitutory" "things" "[LRestitutory$Thing;", Cond.methodLink RX4 52 yX4_personNumbered, Cond.instanceMethod yX4_personNumbered, Cond.selects RX4 yX4_personNumbered yX4_personNumbered, Cond.initialized RX4, Cond.code yX4_personNumbered cX4_personNumbered 3 (some (.object "Restitutory$Person")), Cond.classLink RX4 157 "java/lang/IndexOutOfBoundsException", Cond.initialized "java/lang/IndexOutOfBoundsException", Cond.fieldLink RX4 11 "Restitutory" "people" "[LRestitutory$Person;", Cond.methodLink RX4 176 yX3_lastParty, Cond.instanceMethod yX3_lastParty, Cond.selects RX3 yX3_lastParty yX3_lastParty, Cond.initialized RX3, Cond.code yX3_lastParty cX3_lastParty 1 (some (.object "Restitutory$Person")), Cond.fieldLink RX3 35 "Restitutory$Thing" "last" "LRestitutory$Station;", Cond.fieldLink RX3 39 "Restitutory$Station" "party" "LRestitutory$Person;", Cond.methodLink RX4 180 yX4_titleFromFirst, Cond.instanceMethod yX4_titleFromFirst, Cond.selects RX4 yX4_titleFromFirst yX4_titleFromFirst, Cond.code yX4_titleFromFirst cX4_titleFromFirst 4 (some (.object "Restitutory$Person")), Cond.fieldLink RX4 162 "Restitutory$Thing" "first" "LRestitutory$Station;", Cond.fieldLink RX4 213 "Restitutory$Station" "party" "LRestitutory$Person;", Cond.fieldLink RX4 166 "Restitutory$Station" "next" "LRestitutory$Station;", Cond.methodLink RX4 223 yX4_bringsTitle]
def wsX4_asks_r2 : List Cond := [Cond.instanceMethod yX4_bringsTitle, Cond.selects RX4 yX4_bringsTitle yX4_bringsTitle, Cond.code yX4_bringsTitle cX4_bringsTitle 4 (some .boolean), Cond.fieldLink RX4 138 "Restitutory$Station" "settled" "Z", Cond.fieldLink RX4 210 "Restitutory$Station" "ahead" "LRestitutory$Station;", Cond.methodLink RX4 172 yX4_takesAway, Cond.instanceMethod yX4_takesAway, Cond.selects RX4 yX4_takesAway yX4_takesAway, Cond.code yX4_takesAway cX4_takesAway 3 (some .boolean), Cond.fieldLink RX4 130 "Restitutory$Station" "kind" "I", Cond.fieldLink RX4 135 "Restitutory$Station" "rebutted" "Z", Cond.fieldLink RX4 217 "Restitutory$Station" "land" "I", Cond.fieldLink RX4 220 "Restitutory$Station" "year" "I", Cond.methodLink RX4 141 yX4_isDarkFor, Cond.instanceMethod yX4_isDarkFor, Cond.selects RX4 yX4_isDarkFor yX4_isDarkFor, Cond.code yX4_isDarkFor cX4_isDarkFor 8 (some .boolean), Cond.fieldLink RX4 17 "Restitutory" "persecutions" "[LRestitutory$Persecution;", Cond.fieldLink RX4 203 "Restitutory$Person" "group" "I", Cond.methodLink RX4 206 yX0_strikes, Cond.instanceMethod yX0_strikes, Cond.selects RX0 yX0_strikes yX0_strikes, Cond.initialized RX0, Cond.code yX0_strikes cX0_strikes 4 (some .boolean)]
def wsX4_asks_r3 : List Cond := [Cond.fieldLink RX0 7 "Restitutory$Persecution" "group" "I", Cond.fieldLink RX0 13 "Restitutory$Persecution" "land" "I", Cond.fieldLink RX0 16 "Restitutory$Persecution" "from" "I", Cond.fieldLink RX0 19 "Restitutory$Persecution" "to" "I", Cond.methodLink RX4 227 yX4_isKeptInGoodFaith, Cond.instanceMethod yX4_isKeptInGoodFaith, Cond.selects RX4 yX4_isKeptInGoodFaith yX4_isKeptInGoodFaith, Cond.code yX4_isKeptInGoodFaith cX4_isKeptInGoodFaith 4 (some .boolean), Cond.fieldLink RX4 21 "Restitutory" "faithYears" "[I", Cond.fieldLink RX4 25 "Restitutory" "currentYear" "I", Cond.methodLink RX4 184 yX4_livingFor, Cond.static yX4_livingFor, Cond.code yX4_livingFor cX4_livingFor 2 (some (.object "Restitutory$Person")), Cond.fieldLink RX4 56 "Restitutory$Person" "dead" "Z", Cond.methodLink RX4 145 yX4_livingHeir, Cond.static yX4_livingHeir, Cond.code yX4_livingHeir cX4_livingHeir 7 (some (.object "Restitutory$Person")), Cond.fieldLink RX4 74 "Restitutory$Person" "heirs" "[LRestitutory$Person;"]
def wsX4_asks : List Cond := .code yX4_asks cX4_asks 8 (some .int) :: ((wsX4_asks_r1 ++ (wsX4_asks_r2 ++ wsX4_asks_r3)) ++ wsX40 ++ wsX30 ++ wsX20 ++ wsX10 ++ wsX00 ++ (vx_atS RX4 161 "java/lang/IndexOutOfBoundsException" ["java/lang/RuntimeException", "java/lang/Exception"]).filter goodWord)
def wsX5_init : List Cond := .code yX5_init cX5_init 1 none :: ([.methodLink RX5 1 objectInit, .instanceMethod objectInit, .code objectInit ⟨#[0xb1]⟩ 1 none, .fieldLink RX5 7 "RestitutoryModel" "now" "I", .arrayClass .int, .fieldLink RX5 13 "RestitutoryModel" "groups" "[I", .arrayClass .boolean, .fieldLink RX5 17 "RestitutoryModel" "dead" "[Z", .fieldLink RX5 21 "RestitutoryModel" "heirs" "[I", .fieldLink RX5 24 "RestitutoryModel" "heirMany" "[I", .fieldLink RX5 27 "RestitutoryModel" "persecutions" "[I", .fieldLink RX5 30 "RestitutoryModel" "faiths" "[I", .fieldLink RX5 33 "RestitutoryModel" "marks" "[I", .fieldLink RX5 36 "RestitutoryModel" "sizes" "[I", .fieldLink RX5 39 "RestitutoryModel" "stationMany" "[I", .fieldLink RX5 42 "RestitutoryModel" "parties" "[I", .fieldLink RX5 45 "RestitutoryModel" "kinds" "[I", .fieldLink RX5 48 "RestitutoryModel" "lands" "[I", .fieldLink RX5 51 "RestitutoryModel" "years" "[I", .fieldLink RX5 54 "RestitutoryModel" "rebutted" "[Z", .fieldLink RX5 57 "RestitutoryModel" "settled" "[Z", .fieldLink RX5 60 "RestitutoryModel" "order" "[I"] ++ wsX50)
def wsX5_thrown : List Cond := .code yX5_thrown cX5_thrown 1 (some .int) :: ([.fieldLink RX5 63 "RestitutoryModel" "last" "I"] ++ wsX50)
def wsX5_in : List Cond := .code yX5_in cX5_in 3 (some .boolean) :: ([])
def wsX5_goes : List Cond := .code yX5_goes cX5_goes 4 (some .boolean) :: ([.fieldLink RX5 63 "RestitutoryModel" "last" "I"] ++ wsX50)
def wsX5_isPerson : List Cond := .code yX5_isPerson cX5_isPerson 2 (some .boolean) :: ([.fieldLink RX5 66 "RestitutoryModel" "people" "I", .methodLink RX5 69 yX5_in, .static yX5_in, .initialized RX5, .code yX5_in cX5_in 3 (some .boolean)] ++ wsX50)
def wsX5_isLand : List Cond := .code yX5_isLand cX5_isLand 1 (some .boolean) :: ([.methodLink RX5 69 yX5_in, .static yX5_in, .initialized RX5, .code yX5_in cX5_in 3 (some .boolean)])
def wsX5_isThing : List Cond := .code yX5_isThing cX5_isThing 2 (some .boolean) :: ([.fieldLink RX5 73 "RestitutoryModel" "things" "I", .methodLink RX5 69 yX5_in, .static yX5_in, .initialized RX5, .code yX5_in cX5_in 3 (some .boolean)] ++ wsX50)
def wsX5_isStation : List Cond := .code yX5_isStation cX5_isStation 3 (some .boolean) :: ([.fieldLink RX5 39 "RestitutoryModel" "stationMany" "[I", .methodLink RX5 76 yX5_isThing, .instanceMethod yX5_isThing, .selects RX5 yX5_isThing yX5_isThing, .initialized RX5, .code yX5_isThing cX5_isThing 2 (some .boolean), .fieldLink RX5 73 "RestitutoryModel" "things" "I", .methodLink RX5 69 yX5_in, .static yX5_in, .code yX5_in cX5_in 3 (some .boolean)] ++ wsX50)
def wsX5_person : List Cond := .code yX5_person cX5_person 2 (some .int) :: ([.fieldLink RX5 66 "RestitutoryModel" "people" "I", .fieldLink RX5 13 "RestitutoryModel" "groups" "[I", .methodLink RX5 69 yX5_in, .static yX5_in, .initialized RX5, .code yX5_in cX5_in 3 (some .boolean), .methodLink RX5 80 yX5_goes, .instanceMethod yX5_goes, .selects RX5 yX5_goes yX5_goes, .code yX5_goes cX5_goes 4 (some .boolean), .fieldLink RX5 63 "RestitutoryModel" "last" "I"] ++ wsX50)
def wsX5_die : List Cond := .code yX5_die cX5_die 3 none :: ([.fieldLink RX5 17 "RestitutoryModel" "dead" "[Z", .methodLink RX5 84 yX5_isPerson, .instanceMethod yX5_isPerson, .selects RX5 yX5_isPerson yX5_isPerson, .initialized RX5, .code yX5_isPerson cX5_isPerson 2 (some .boolean), .fieldLink RX5 66 "RestitutoryModel" "people" "I", .methodLink RX5 69 yX5_in, .static yX5_in, .code yX5_in cX5_in 3 (some .boolean), .methodLink RX5 80 yX5_goes, .instanceMethod yX5_goes, .selects RX5 yX5_goes yX5_goes, .code yX5_goes cX5_goes 4 (some .boolean), .fieldLink RX5 63 "RestitutoryModel" "last" "I"] ++ wsX50)
def wsX5_isHeir : List Cond := .code yX5_isHeir cX5_isHeir 5 (some .boolean) :: ([.fieldLink RX5 24 "RestitutoryModel" "heirMany" "[I", .fieldLink RX5 21 "RestitutoryModel" "heirs" "[I"] ++ wsX50)
def wsX5_heir : List Cond := .code yX5_heir cX5_heir 4 (some .int) :: ([.fieldLink RX5 21 "RestitutoryModel" "heirs" "[I", .fieldLink RX5 24 "RestitutoryModel" "heirMany" "[I", .methodLink RX5 84 yX5_isPerson, .instanceMethod yX5_isPerson, .selects RX5 yX5_isPerson yX5_isPerson, .initialized RX5, .code yX5_isPerson cX5_isPerson 2 (some .boolean), .fieldLink RX5 66 "RestitutoryModel" "people" "I", .methodLink RX5 69 yX5_in, .static yX5_in, .code yX5_in cX5_in 3 (some .boolean), .methodLink RX5 87 yX5_isHeir, .instanceMethod yX5_isHeir, .selects RX5 yX5_isHeir yX5_isHeir, .code yX5_isHeir cX5_isHeir 5 (some .boolean), .methodLink RX5 80 yX5_goes, .instanceMethod yX5_goes, .selects RX5 yX5_goes yX5_goes, .code yX5_goes cX5_goes 4 (some .boolean), .fieldLink RX5 63 "RestitutoryModel" "last" "I"] ++ wsX50)
def wsX5_persecution : List Cond := .code yX5_persecution cX5_persecution 7 (some .int) :: ([.fieldLink RX5 94 "RestitutoryModel" "manyPersecutions" "I", .fieldLink RX5 27 "RestitutoryModel" "persecutions" "[I", .methodLink RX5 69 yX5_in, .static yX5_in, .initialized RX5, .code yX5_in cX5_in 3 (some .boolean), .methodLink RX5 91 yX5_isLand, .static yX5_isLand, .code yX5_isLand cX5_isLand 1 (some .boolean), .methodLink RX5 80 yX5_goes, .instanceMethod yX5_goes, .selects RX5 yX5_goes yX5_goes, .code yX5_goes cX5_goes 4 (some .boolean), .fieldLink RX5 63 "RestitutoryModel" "last" "I"] ++ wsX50)
def wsX5_faith : List Cond := .code yX5_faith cX5_faith 4 (some .int) :: ([.fieldLink RX5 30 "RestitutoryModel" "faiths" "[I", .methodLink RX5 91 yX5_isLand, .static yX5_isLand, .initialized RX5, .code yX5_isLand cX5_isLand 1 (some .boolean), .methodLink RX5 69 yX5_in, .static yX5_in, .code yX5_in cX5_in 3 (some .boolean), .methodLink RX5 80 yX5_goes, .instanceMethod yX5_goes, .selects RX5 yX5_goes yX5_goes, .code yX5_goes cX5_goes 4 (some .boolean), .fieldLink RX5 63 "RestitutoryModel" "last" "I"] ++ wsX50)
def wsX5_now : List Cond := .code yX5_now cX5_now 3 (some .int) :: ([.fieldLink RX5 7 "RestitutoryModel" "now" "I", .methodLink RX5 69 yX5_in, .static yX5_in, .initialized RX5, .code yX5_in cX5_in 3 (some .boolean), .methodLink RX5 80 yX5_goes, .instanceMethod yX5_goes, .selects RX5 yX5_goes yX5_goes, .code yX5_goes cX5_goes 4 (some .boolean), .fieldLink RX5 63 "RestitutoryModel" "last" "I"] ++ wsX50)
def wsX5_persecutes : List Cond := .code yX5_persecutes cX5_persecutes 6 (some .boolean) :: ([.fieldLink RX5 94 "RestitutoryModel" "manyPersecutions" "I", .fieldLink RX5 27 "RestitutoryModel" "persecutions" "[I", .methodLink RX5 69 yX5_in, .static yX5_in, .initialized RX5, .code yX5_in cX5_in 3 (some .boolean)] ++ wsX50)
def wsX5_thing : List Cond := .code yX5_thing cX5_thing 3 (some .int) :: ([.constant RX5 97 (65535), .fieldLink RX5 73 "RestitutoryModel" "things" "I", .fieldLink RX5 33 "RestitutoryModel" "marks" "[I", .fieldLink RX5 36 "RestitutoryModel" "sizes" "[I", .methodLink RX5 69 yX5_in, .static yX5_in, .initialized RX5, .code yX5_in cX5_in 3 (some .boolean), .methodLink RX5 80 yX5_goes, .instanceMethod yX5_goes, .selects RX5 yX5_goes yX5_goes, .code yX5_goes cX5_goes 4 (some .boolean), .fieldLink RX5 63 "RestitutoryModel" "last" "I"] ++ wsX50)
def wsX5_mark : List Cond := .code yX5_mark cX5_mark 5 (some .boolean) :: ([.fieldLink RX5 33 "RestitutoryModel" "marks" "[I", .methodLink RX5 76 yX5_isThing, .instanceMethod yX5_isThing, .selects RX5 yX5_isThing yX5_isThing, .initialized RX5, .code yX5_isThing cX5_isThing 2 (some .boolean), .fieldLink RX5 73 "RestitutoryModel" "things" "I", .methodLink RX5 69 yX5_in, .static yX5_in, .code yX5_in cX5_in 3 (some .boolean), .methodLink RX5 80 yX5_goes, .instanceMethod yX5_goes, .selects RX5 yX5_goes yX5_goes, .code yX5_goes cX5_goes 4 (some .boolean), .fieldLink RX5 63 "RestitutoryModel" "last" "I"] ++ wsX50)
def wsX5_station_r1 : List Cond := [Cond.fieldLink RX5 7 "RestitutoryModel" "now" "I", Cond.fieldLink RX5 39 "RestitutoryModel" "stationMany" "[I", Cond.fieldLink RX5 42 "RestitutoryModel" "parties" "[I", Cond.fieldLink RX5 45 "RestitutoryModel" "kinds" "[I", Cond.fieldLink RX5 48 "RestitutoryModel" "lands" "[I", Cond.fieldLink RX5 51 "RestitutoryModel" "years" "[I", Cond.methodLink RX5 76 yX5_isThing, Cond.instanceMethod yX5_isThing, Cond.selects RX5 yX5_isThing yX5_isThing, Cond.initialized RX5, Cond.code yX5_isThing cX5_isThing 2 (some .boolean), Cond.fieldLink RX5 73 "RestitutoryModel" "things" "I", Cond.methodLink RX5 69 yX5_in, Cond.static yX5_in, Cond.code yX5_in cX5_in 3 (some .boolean), Cond.methodLink RX5 84 yX5_isPerson, Cond.instanceMethod yX5_isPerson, Cond.selects RX5 yX5_isPerson yX5_isPerson, Cond.code yX5_isPerson cX5_isPerson 2 (some .boolean), Cond.fieldLink RX5 66 "RestitutoryModel" "people" "I", Cond.methodLink RX5 91 yX5_isLand, Cond.static yX5_isLand, Cond.code yX5_isLand cX5_isLand 1 (some .boolean), Cond.methodLink RX5 80 yX5_goes]
def wsX5_station_r2 : List Cond := [Cond.instanceMethod yX5_goes, Cond.selects RX5 yX5_goes yX5_goes, Cond.code yX5_goes cX5_goes 4 (some .boolean), Cond.fieldLink RX5 63 "RestitutoryModel" "last" "I"]
def wsX5_station : List Cond := .code yX5_station cX5_station 8 (some .int) :: ((wsX5_station_r1 ++ wsX5_station_r2) ++ wsX50)
def wsX5_rebut : List Cond := .code yX5_rebut cX5_rebut 7 (some .boolean) :: ([.fieldLink RX5 45 "RestitutoryModel" "kinds" "[I", .fieldLink RX5 54 "RestitutoryModel" "rebutted" "[Z", .methodLink RX5 98 yX5_isStation, .instanceMethod yX5_isStation, .selects RX5 yX5_isStation yX5_isStation, .initialized RX5, .code yX5_isStation cX5_isStation 3 (some .boolean), .fieldLink RX5 39 "RestitutoryModel" "stationMany" "[I", .methodLink RX5 76 yX5_isThing, .instanceMethod yX5_isThing, .selects RX5 yX5_isThing yX5_isThing, .code yX5_isThing cX5_isThing 2 (some .boolean), .fieldLink RX5 73 "RestitutoryModel" "things" "I", .methodLink RX5 69 yX5_in, .static yX5_in, .code yX5_in cX5_in 3 (some .boolean), .methodLink RX5 80 yX5_goes, .instanceMethod yX5_goes, .selects RX5 yX5_goes yX5_goes, .code yX5_goes cX5_goes 4 (some .boolean), .fieldLink RX5 63 "RestitutoryModel" "last" "I"] ++ wsX50)
def wsX5_settle : List Cond := .code yX5_settle cX5_settle 5 (some .boolean) :: ([.fieldLink RX5 57 "RestitutoryModel" "settled" "[Z", .methodLink RX5 98 yX5_isStation, .instanceMethod yX5_isStation, .selects RX5 yX5_isStation yX5_isStation, .initialized RX5, .code yX5_isStation cX5_isStation 3 (some .boolean), .fieldLink RX5 39 "RestitutoryModel" "stationMany" "[I", .methodLink RX5 76 yX5_isThing, .instanceMethod yX5_isThing, .selects RX5 yX5_isThing yX5_isThing, .code yX5_isThing cX5_isThing 2 (some .boolean), .fieldLink RX5 73 "RestitutoryModel" "things" "I", .methodLink RX5 69 yX5_in, .static yX5_in, .code yX5_in cX5_in 3 (some .boolean), .methodLink RX5 80 yX5_goes, .instanceMethod yX5_goes, .selects RX5 yX5_goes yX5_goes, .code yX5_goes cX5_goes 4 (some .boolean), .fieldLink RX5 63 "RestitutoryModel" "last" "I"] ++ wsX50)
def wsX5_isPersecuted : List Cond := .code yX5_isPersecuted cX5_isPersecuted 4 (some .boolean) :: ([.fieldLink RX5 13 "RestitutoryModel" "groups" "[I", .methodLink RX5 84 yX5_isPerson, .instanceMethod yX5_isPerson, .selects RX5 yX5_isPerson yX5_isPerson, .initialized RX5, .code yX5_isPerson cX5_isPerson 2 (some .boolean), .fieldLink RX5 66 "RestitutoryModel" "people" "I", .methodLink RX5 69 yX5_in, .static yX5_in, .code yX5_in cX5_in 3 (some .boolean), .methodLink RX5 91 yX5_isLand, .static yX5_isLand, .code yX5_isLand cX5_isLand 1 (some .boolean), .methodLink RX5 80 yX5_goes, .instanceMethod yX5_goes, .selects RX5 yX5_goes yX5_goes, .code yX5_goes cX5_goes 4 (some .boolean), .fieldLink RX5 63 "RestitutoryModel" "last" "I", .methodLink RX5 101 yX5_persecutes, .instanceMethod yX5_persecutes, .selects RX5 yX5_persecutes yX5_persecutes, .code yX5_persecutes cX5_persecutes 6 (some .boolean), .fieldLink RX5 94 "RestitutoryModel" "manyPersecutions" "I", .fieldLink RX5 27 "RestitutoryModel" "persecutions" "[I"] ++ wsX50)
def wsX5_livingOf : List Cond := .code yX5_livingOf cX5_livingOf 3 (some .int) :: ([.fieldLink RX5 24 "RestitutoryModel" "heirMany" "[I", .fieldLink RX5 17 "RestitutoryModel" "dead" "[Z", .fieldLink RX5 21 "RestitutoryModel" "heirs" "[I"] ++ wsX50)
def wsX5_nearOf : List Cond := .code yX5_nearOf cX5_nearOf 5 (some .int) :: ([.fieldLink RX5 24 "RestitutoryModel" "heirMany" "[I", .fieldLink RX5 21 "RestitutoryModel" "heirs" "[I", .fieldLink RX5 17 "RestitutoryModel" "dead" "[Z", .methodLink RX5 104 yX5_livingOf, .instanceMethod yX5_livingOf, .selects RX5 yX5_livingOf yX5_livingOf, .initialized RX5, .code yX5_livingOf cX5_livingOf 3 (some .int)] ++ wsX50)
def wsX5_findsHeir : List Cond := .code yX5_findsHeir cX5_findsHeir 5 (some .int) :: ([.fieldLink RX5 24 "RestitutoryModel" "heirMany" "[I", .fieldLink RX5 21 "RestitutoryModel" "heirs" "[I", .fieldLink RX5 17 "RestitutoryModel" "dead" "[Z", .methodLink RX5 108 yX5_nearOf, .instanceMethod yX5_nearOf, .selects RX5 yX5_nearOf yX5_nearOf, .initialized RX5, .code yX5_nearOf cX5_nearOf 5 (some .int), .methodLink RX5 104 yX5_livingOf, .instanceMethod yX5_livingOf, .selects RX5 yX5_livingOf yX5_livingOf, .code yX5_livingOf cX5_livingOf 3 (some .int)] ++ wsX50)
def wsX5_heirOf_r1 : List Cond := [Cond.methodLink RX5 84 yX5_isPerson, Cond.instanceMethod yX5_isPerson, Cond.selects RX5 yX5_isPerson yX5_isPerson, Cond.initialized RX5, Cond.code yX5_isPerson cX5_isPerson 2 (some .boolean), Cond.fieldLink RX5 66 "RestitutoryModel" "people" "I", Cond.methodLink RX5 69 yX5_in, Cond.static yX5_in, Cond.code yX5_in cX5_in 3 (some .boolean), Cond.methodLink RX5 80 yX5_goes, Cond.instanceMethod yX5_goes, Cond.selects RX5 yX5_goes yX5_goes, Cond.code yX5_goes cX5_goes 4 (some .boolean), Cond.fieldLink RX5 63 "RestitutoryModel" "last" "I", Cond.methodLink RX5 111 yX5_findsHeir, Cond.instanceMethod yX5_findsHeir, Cond.selects RX5 yX5_findsHeir yX5_findsHeir, Cond.code yX5_findsHeir cX5_findsHeir 5 (some .int), Cond.fieldLink RX5 24 "RestitutoryModel" "heirMany" "[I", Cond.fieldLink RX5 21 "RestitutoryModel" "heirs" "[I", Cond.fieldLink RX5 17 "RestitutoryModel" "dead" "[Z", Cond.methodLink RX5 108 yX5_nearOf, Cond.instanceMethod yX5_nearOf, Cond.selects RX5 yX5_nearOf yX5_nearOf]
def wsX5_heirOf_r2 : List Cond := [Cond.code yX5_nearOf cX5_nearOf 5 (some .int), Cond.methodLink RX5 104 yX5_livingOf, Cond.instanceMethod yX5_livingOf, Cond.selects RX5 yX5_livingOf yX5_livingOf, Cond.code yX5_livingOf cX5_livingOf 3 (some .int)]
def wsX5_heirOf : List Cond := .code yX5_heirOf cX5_heirOf 2 (some .int) :: ((wsX5_heirOf_r1 ++ wsX5_heirOf_r2) ++ wsX50)
def wsX5_bits : List Cond := .code yX5_bits cX5_bits 3 (some .int) :: ([])
def wsX5_likes : List Cond := .code yX5_likes cX5_likes 4 (some .int) :: ([.fieldLink RX5 36 "RestitutoryModel" "sizes" "[I", .fieldLink RX5 33 "RestitutoryModel" "marks" "[I", .methodLink RX5 114 yX5_bits, .static yX5_bits, .initialized RX5, .code yX5_bits cX5_bits 3 (some .int)] ++ wsX50)
def wsX5_likeness : List Cond := .code yX5_likeness cX5_likeness 3 (some .int) :: ([.methodLink RX5 76 yX5_isThing, .instanceMethod yX5_isThing, .selects RX5 yX5_isThing yX5_isThing, .initialized RX5, .code yX5_isThing cX5_isThing 2 (some .boolean), .fieldLink RX5 73 "RestitutoryModel" "things" "I", .methodLink RX5 69 yX5_in, .static yX5_in, .code yX5_in cX5_in 3 (some .boolean), .methodLink RX5 80 yX5_goes, .instanceMethod yX5_goes, .selects RX5 yX5_goes yX5_goes, .code yX5_goes cX5_goes 4 (some .boolean), .fieldLink RX5 63 "RestitutoryModel" "last" "I", .methodLink RX5 117 yX5_likes, .instanceMethod yX5_likes, .selects RX5 yX5_likes yX5_likes, .code yX5_likes cX5_likes 4 (some .int), .fieldLink RX5 36 "RestitutoryModel" "sizes" "[I", .fieldLink RX5 33 "RestitutoryModel" "marks" "[I", .methodLink RX5 114 yX5_bits, .static yX5_bits, .code yX5_bits cX5_bits 3 (some .int)] ++ wsX50)
def wsX5_likest : List Cond := .code yX5_likest cX5_likest 4 (some .int) :: ([.fieldLink RX5 73 "RestitutoryModel" "things" "I", .methodLink RX5 76 yX5_isThing, .instanceMethod yX5_isThing, .selects RX5 yX5_isThing yX5_isThing, .initialized RX5, .code yX5_isThing cX5_isThing 2 (some .boolean), .methodLink RX5 69 yX5_in, .static yX5_in, .code yX5_in cX5_in 3 (some .boolean), .methodLink RX5 80 yX5_goes, .instanceMethod yX5_goes, .selects RX5 yX5_goes yX5_goes, .code yX5_goes cX5_goes 4 (some .boolean), .fieldLink RX5 63 "RestitutoryModel" "last" "I", .methodLink RX5 117 yX5_likes, .instanceMethod yX5_likes, .selects RX5 yX5_likes yX5_likes, .code yX5_likes cX5_likes 4 (some .int), .fieldLink RX5 36 "RestitutoryModel" "sizes" "[I", .fieldLink RX5 33 "RestitutoryModel" "marks" "[I", .methodLink RX5 114 yX5_bits, .static yX5_bits, .code yX5_bits cX5_bits 3 (some .int)] ++ wsX50)
def wsX5_lays : List Cond := .code yX5_lays cX5_lays 5 (some .int) :: ([.fieldLink RX5 39 "RestitutoryModel" "stationMany" "[I", .fieldLink RX5 51 "RestitutoryModel" "years" "[I", .fieldLink RX5 60 "RestitutoryModel" "order" "[I"] ++ wsX50)
def wsX5_stationAt : List Cond := .code yX5_stationAt cX5_stationAt 3 (some .int) :: ([.fieldLink RX5 60 "RestitutoryModel" "order" "[I", .methodLink RX5 76 yX5_isThing, .instanceMethod yX5_isThing, .selects RX5 yX5_isThing yX5_isThing, .initialized RX5, .code yX5_isThing cX5_isThing 2 (some .boolean), .fieldLink RX5 73 "RestitutoryModel" "things" "I", .methodLink RX5 69 yX5_in, .static yX5_in, .code yX5_in cX5_in 3 (some .boolean), .methodLink RX5 80 yX5_goes, .instanceMethod yX5_goes, .selects RX5 yX5_goes yX5_goes, .code yX5_goes cX5_goes 4 (some .boolean), .fieldLink RX5 63 "RestitutoryModel" "last" "I", .methodLink RX5 121 yX5_lays, .instanceMethod yX5_lays, .selects RX5 yX5_lays yX5_lays, .code yX5_lays cX5_lays 5 (some .int), .fieldLink RX5 39 "RestitutoryModel" "stationMany" "[I", .fieldLink RX5 51 "RestitutoryModel" "years" "[I"] ++ wsX50)
def wsX5_loses : List Cond := .code yX5_loses cX5_loses 5 (some .boolean) :: ([.fieldLink RX5 60 "RestitutoryModel" "order" "[I", .fieldLink RX5 42 "RestitutoryModel" "parties" "[I", .fieldLink RX5 45 "RestitutoryModel" "kinds" "[I", .fieldLink RX5 54 "RestitutoryModel" "rebutted" "[Z", .fieldLink RX5 13 "RestitutoryModel" "groups" "[I", .fieldLink RX5 48 "RestitutoryModel" "lands" "[I", .fieldLink RX5 51 "RestitutoryModel" "years" "[I", .methodLink RX5 101 yX5_persecutes, .instanceMethod yX5_persecutes, .selects RX5 yX5_persecutes yX5_persecutes, .initialized RX5, .code yX5_persecutes cX5_persecutes 6 (some .boolean), .fieldLink RX5 94 "RestitutoryModel" "manyPersecutions" "I", .fieldLink RX5 27 "RestitutoryModel" "persecutions" "[I", .methodLink RX5 69 yX5_in, .static yX5_in, .code yX5_in cX5_in 3 (some .boolean)] ++ wsX50)
def wsX5_isLoss_r1 : List Cond := [Cond.fieldLink RX5 60 "RestitutoryModel" "order" "[I", Cond.methodLink RX5 98 yX5_isStation, Cond.instanceMethod yX5_isStation, Cond.selects RX5 yX5_isStation yX5_isStation, Cond.initialized RX5, Cond.code yX5_isStation cX5_isStation 3 (some .boolean), Cond.fieldLink RX5 39 "RestitutoryModel" "stationMany" "[I", Cond.methodLink RX5 76 yX5_isThing, Cond.instanceMethod yX5_isThing, Cond.selects RX5 yX5_isThing yX5_isThing, Cond.code yX5_isThing cX5_isThing 2 (some .boolean), Cond.fieldLink RX5 73 "RestitutoryModel" "things" "I", Cond.methodLink RX5 69 yX5_in, Cond.static yX5_in, Cond.code yX5_in cX5_in 3 (some .boolean), Cond.methodLink RX5 80 yX5_goes, Cond.instanceMethod yX5_goes, Cond.selects RX5 yX5_goes yX5_goes, Cond.code yX5_goes cX5_goes 4 (some .boolean), Cond.fieldLink RX5 63 "RestitutoryModel" "last" "I", Cond.methodLink RX5 121 yX5_lays, Cond.instanceMethod yX5_lays, Cond.selects RX5 yX5_lays yX5_lays, Cond.code yX5_lays cX5_lays 5 (some .int)]
def wsX5_isLoss_r2 : List Cond := [Cond.fieldLink RX5 51 "RestitutoryModel" "years" "[I", Cond.methodLink RX5 124 yX5_loses, Cond.instanceMethod yX5_loses, Cond.selects RX5 yX5_loses yX5_loses, Cond.code yX5_loses cX5_loses 5 (some .boolean), Cond.fieldLink RX5 42 "RestitutoryModel" "parties" "[I", Cond.fieldLink RX5 45 "RestitutoryModel" "kinds" "[I", Cond.fieldLink RX5 54 "RestitutoryModel" "rebutted" "[Z", Cond.fieldLink RX5 13 "RestitutoryModel" "groups" "[I", Cond.fieldLink RX5 48 "RestitutoryModel" "lands" "[I", Cond.methodLink RX5 101 yX5_persecutes, Cond.instanceMethod yX5_persecutes, Cond.selects RX5 yX5_persecutes yX5_persecutes, Cond.code yX5_persecutes cX5_persecutes 6 (some .boolean), Cond.fieldLink RX5 94 "RestitutoryModel" "manyPersecutions" "I", Cond.fieldLink RX5 27 "RestitutoryModel" "persecutions" "[I"]
def wsX5_isLoss : List Cond := .code yX5_isLoss cX5_isLoss 6 (some .boolean) :: ((wsX5_isLoss_r1 ++ wsX5_isLoss_r2) ++ wsX50)
def wsX5_holderOf : List Cond := .code yX5_holderOf cX5_holderOf 3 (some .int) :: ([.fieldLink RX5 42 "RestitutoryModel" "parties" "[I", .fieldLink RX5 60 "RestitutoryModel" "order" "[I", .methodLink RX5 121 yX5_lays, .instanceMethod yX5_lays, .selects RX5 yX5_lays yX5_lays, .initialized RX5, .code yX5_lays cX5_lays 5 (some .int), .fieldLink RX5 39 "RestitutoryModel" "stationMany" "[I", .fieldLink RX5 51 "RestitutoryModel" "years" "[I"] ++ wsX50)
def wsX5_holder_r1 : List Cond := [Cond.methodLink RX5 76 yX5_isThing, Cond.instanceMethod yX5_isThing, Cond.selects RX5 yX5_isThing yX5_isThing, Cond.initialized RX5, Cond.code yX5_isThing cX5_isThing 2 (some .boolean), Cond.fieldLink RX5 73 "RestitutoryModel" "things" "I", Cond.methodLink RX5 69 yX5_in, Cond.static yX5_in, Cond.code yX5_in cX5_in 3 (some .boolean), Cond.methodLink RX5 80 yX5_goes, Cond.instanceMethod yX5_goes, Cond.selects RX5 yX5_goes yX5_goes, Cond.code yX5_goes cX5_goes 4 (some .boolean), Cond.fieldLink RX5 63 "RestitutoryModel" "last" "I", Cond.methodLink RX5 127 yX5_holderOf, Cond.instanceMethod yX5_holderOf, Cond.selects RX5 yX5_holderOf yX5_holderOf, Cond.code yX5_holderOf cX5_holderOf 3 (some .int), Cond.fieldLink RX5 42 "RestitutoryModel" "parties" "[I", Cond.fieldLink RX5 60 "RestitutoryModel" "order" "[I", Cond.methodLink RX5 121 yX5_lays, Cond.instanceMethod yX5_lays, Cond.selects RX5 yX5_lays yX5_lays, Cond.code yX5_lays cX5_lays 5 (some .int)]
def wsX5_holder_r2 : List Cond := [Cond.fieldLink RX5 39 "RestitutoryModel" "stationMany" "[I", Cond.fieldLink RX5 51 "RestitutoryModel" "years" "[I"]
def wsX5_holder : List Cond := .code yX5_holder cX5_holder 2 (some .int) :: ((wsX5_holder_r1 ++ wsX5_holder_r2) ++ wsX50)
def wsX5_ownerOf_r1 : List Cond := [Cond.fieldLink RX5 42 "RestitutoryModel" "parties" "[I", Cond.fieldLink RX5 60 "RestitutoryModel" "order" "[I", Cond.fieldLink RX5 51 "RestitutoryModel" "years" "[I", Cond.fieldLink RX5 7 "RestitutoryModel" "now" "I", Cond.fieldLink RX5 45 "RestitutoryModel" "kinds" "[I", Cond.fieldLink RX5 30 "RestitutoryModel" "faiths" "[I", Cond.fieldLink RX5 48 "RestitutoryModel" "lands" "[I", Cond.fieldLink RX5 57 "RestitutoryModel" "settled" "[Z", Cond.fieldLink RX5 17 "RestitutoryModel" "dead" "[Z", Cond.methodLink RX5 121 yX5_lays, Cond.instanceMethod yX5_lays, Cond.selects RX5 yX5_lays yX5_lays, Cond.initialized RX5, Cond.code yX5_lays cX5_lays 5 (some .int), Cond.fieldLink RX5 39 "RestitutoryModel" "stationMany" "[I", Cond.methodLink RX5 124 yX5_loses, Cond.instanceMethod yX5_loses, Cond.selects RX5 yX5_loses yX5_loses, Cond.code yX5_loses cX5_loses 5 (some .boolean), Cond.fieldLink RX5 54 "RestitutoryModel" "rebutted" "[Z", Cond.fieldLink RX5 13 "RestitutoryModel" "groups" "[I", Cond.methodLink RX5 101 yX5_persecutes, Cond.instanceMethod yX5_persecutes, Cond.selects RX5 yX5_persecutes yX5_persecutes]
def wsX5_ownerOf_r2 : List Cond := [Cond.code yX5_persecutes cX5_persecutes 6 (some .boolean), Cond.fieldLink RX5 94 "RestitutoryModel" "manyPersecutions" "I", Cond.fieldLink RX5 27 "RestitutoryModel" "persecutions" "[I", Cond.methodLink RX5 69 yX5_in, Cond.static yX5_in, Cond.code yX5_in cX5_in 3 (some .boolean), Cond.methodLink RX5 111 yX5_findsHeir, Cond.instanceMethod yX5_findsHeir, Cond.selects RX5 yX5_findsHeir yX5_findsHeir, Cond.code yX5_findsHeir cX5_findsHeir 5 (some .int), Cond.fieldLink RX5 24 "RestitutoryModel" "heirMany" "[I", Cond.fieldLink RX5 21 "RestitutoryModel" "heirs" "[I", Cond.methodLink RX5 108 yX5_nearOf, Cond.instanceMethod yX5_nearOf, Cond.selects RX5 yX5_nearOf yX5_nearOf, Cond.code yX5_nearOf cX5_nearOf 5 (some .int), Cond.methodLink RX5 104 yX5_livingOf, Cond.instanceMethod yX5_livingOf, Cond.selects RX5 yX5_livingOf yX5_livingOf, Cond.code yX5_livingOf cX5_livingOf 3 (some .int)]
def wsX5_ownerOf : List Cond := .code yX5_ownerOf cX5_ownerOf 9 (some .int) :: ((wsX5_ownerOf_r1 ++ wsX5_ownerOf_r2) ++ wsX50)
def wsX5_owner_r1 : List Cond := [Cond.methodLink RX5 76 yX5_isThing, Cond.instanceMethod yX5_isThing, Cond.selects RX5 yX5_isThing yX5_isThing, Cond.initialized RX5, Cond.code yX5_isThing cX5_isThing 2 (some .boolean), Cond.fieldLink RX5 73 "RestitutoryModel" "things" "I", Cond.methodLink RX5 69 yX5_in, Cond.static yX5_in, Cond.code yX5_in cX5_in 3 (some .boolean), Cond.methodLink RX5 80 yX5_goes, Cond.instanceMethod yX5_goes, Cond.selects RX5 yX5_goes yX5_goes, Cond.code yX5_goes cX5_goes 4 (some .boolean), Cond.fieldLink RX5 63 "RestitutoryModel" "last" "I", Cond.methodLink RX5 130 yX5_ownerOf, Cond.instanceMethod yX5_ownerOf, Cond.selects RX5 yX5_ownerOf yX5_ownerOf, Cond.code yX5_ownerOf cX5_ownerOf 9 (some .int), Cond.fieldLink RX5 42 "RestitutoryModel" "parties" "[I", Cond.fieldLink RX5 60 "RestitutoryModel" "order" "[I", Cond.fieldLink RX5 51 "RestitutoryModel" "years" "[I", Cond.fieldLink RX5 7 "RestitutoryModel" "now" "I", Cond.fieldLink RX5 45 "RestitutoryModel" "kinds" "[I", Cond.fieldLink RX5 30 "RestitutoryModel" "faiths" "[I"]
def wsX5_owner_r2 : List Cond := [Cond.fieldLink RX5 48 "RestitutoryModel" "lands" "[I", Cond.fieldLink RX5 57 "RestitutoryModel" "settled" "[Z", Cond.fieldLink RX5 17 "RestitutoryModel" "dead" "[Z", Cond.methodLink RX5 121 yX5_lays, Cond.instanceMethod yX5_lays, Cond.selects RX5 yX5_lays yX5_lays, Cond.code yX5_lays cX5_lays 5 (some .int), Cond.fieldLink RX5 39 "RestitutoryModel" "stationMany" "[I", Cond.methodLink RX5 124 yX5_loses, Cond.instanceMethod yX5_loses, Cond.selects RX5 yX5_loses yX5_loses, Cond.code yX5_loses cX5_loses 5 (some .boolean), Cond.fieldLink RX5 54 "RestitutoryModel" "rebutted" "[Z", Cond.fieldLink RX5 13 "RestitutoryModel" "groups" "[I", Cond.methodLink RX5 101 yX5_persecutes, Cond.instanceMethod yX5_persecutes, Cond.selects RX5 yX5_persecutes yX5_persecutes, Cond.code yX5_persecutes cX5_persecutes 6 (some .boolean), Cond.fieldLink RX5 94 "RestitutoryModel" "manyPersecutions" "I", Cond.fieldLink RX5 27 "RestitutoryModel" "persecutions" "[I", Cond.methodLink RX5 111 yX5_findsHeir, Cond.instanceMethod yX5_findsHeir, Cond.selects RX5 yX5_findsHeir yX5_findsHeir, Cond.code yX5_findsHeir cX5_findsHeir 5 (some .int)]
def wsX5_owner_r3 : List Cond := [Cond.fieldLink RX5 24 "RestitutoryModel" "heirMany" "[I", Cond.fieldLink RX5 21 "RestitutoryModel" "heirs" "[I", Cond.methodLink RX5 108 yX5_nearOf, Cond.instanceMethod yX5_nearOf, Cond.selects RX5 yX5_nearOf yX5_nearOf, Cond.code yX5_nearOf cX5_nearOf 5 (some .int), Cond.methodLink RX5 104 yX5_livingOf, Cond.instanceMethod yX5_livingOf, Cond.selects RX5 yX5_livingOf yX5_livingOf, Cond.code yX5_livingOf cX5_livingOf 3 (some .int)]
def wsX5_owner : List Cond := .code yX5_owner cX5_owner 2 (some .int) :: ((wsX5_owner_r1 ++ (wsX5_owner_r2 ++ wsX5_owner_r3)) ++ wsX50)
def wsX5_ownerAnew_r1 : List Cond := [Cond.methodLink RX5 133 yX5_owner, Cond.instanceMethod yX5_owner, Cond.selects RX5 yX5_owner yX5_owner, Cond.initialized RX5, Cond.code yX5_owner cX5_owner 2 (some .int), Cond.methodLink RX5 76 yX5_isThing, Cond.instanceMethod yX5_isThing, Cond.selects RX5 yX5_isThing yX5_isThing, Cond.code yX5_isThing cX5_isThing 2 (some .boolean), Cond.fieldLink RX5 73 "RestitutoryModel" "things" "I", Cond.methodLink RX5 69 yX5_in, Cond.static yX5_in, Cond.code yX5_in cX5_in 3 (some .boolean), Cond.methodLink RX5 80 yX5_goes, Cond.instanceMethod yX5_goes, Cond.selects RX5 yX5_goes yX5_goes, Cond.code yX5_goes cX5_goes 4 (some .boolean), Cond.fieldLink RX5 63 "RestitutoryModel" "last" "I", Cond.methodLink RX5 130 yX5_ownerOf, Cond.instanceMethod yX5_ownerOf, Cond.selects RX5 yX5_ownerOf yX5_ownerOf, Cond.code yX5_ownerOf cX5_ownerOf 9 (some .int), Cond.fieldLink RX5 42 "RestitutoryModel" "parties" "[I", Cond.fieldLink RX5 60 "RestitutoryModel" "order" "[I"]
def wsX5_ownerAnew_r2 : List Cond := [Cond.fieldLink RX5 51 "RestitutoryModel" "years" "[I", Cond.fieldLink RX5 7 "RestitutoryModel" "now" "I", Cond.fieldLink RX5 45 "RestitutoryModel" "kinds" "[I", Cond.fieldLink RX5 30 "RestitutoryModel" "faiths" "[I", Cond.fieldLink RX5 48 "RestitutoryModel" "lands" "[I", Cond.fieldLink RX5 57 "RestitutoryModel" "settled" "[Z", Cond.fieldLink RX5 17 "RestitutoryModel" "dead" "[Z", Cond.methodLink RX5 121 yX5_lays, Cond.instanceMethod yX5_lays, Cond.selects RX5 yX5_lays yX5_lays, Cond.code yX5_lays cX5_lays 5 (some .int), Cond.fieldLink RX5 39 "RestitutoryModel" "stationMany" "[I", Cond.methodLink RX5 124 yX5_loses, Cond.instanceMethod yX5_loses, Cond.selects RX5 yX5_loses yX5_loses, Cond.code yX5_loses cX5_loses 5 (some .boolean), Cond.fieldLink RX5 54 "RestitutoryModel" "rebutted" "[Z", Cond.fieldLink RX5 13 "RestitutoryModel" "groups" "[I", Cond.methodLink RX5 101 yX5_persecutes, Cond.instanceMethod yX5_persecutes, Cond.selects RX5 yX5_persecutes yX5_persecutes, Cond.code yX5_persecutes cX5_persecutes 6 (some .boolean), Cond.fieldLink RX5 94 "RestitutoryModel" "manyPersecutions" "I", Cond.fieldLink RX5 27 "RestitutoryModel" "persecutions" "[I"]
def wsX5_ownerAnew_r3 : List Cond := [Cond.methodLink RX5 111 yX5_findsHeir, Cond.instanceMethod yX5_findsHeir, Cond.selects RX5 yX5_findsHeir yX5_findsHeir, Cond.code yX5_findsHeir cX5_findsHeir 5 (some .int), Cond.fieldLink RX5 24 "RestitutoryModel" "heirMany" "[I", Cond.fieldLink RX5 21 "RestitutoryModel" "heirs" "[I", Cond.methodLink RX5 108 yX5_nearOf, Cond.instanceMethod yX5_nearOf, Cond.selects RX5 yX5_nearOf yX5_nearOf, Cond.code yX5_nearOf cX5_nearOf 5 (some .int), Cond.methodLink RX5 104 yX5_livingOf, Cond.instanceMethod yX5_livingOf, Cond.selects RX5 yX5_livingOf yX5_livingOf, Cond.code yX5_livingOf cX5_livingOf 3 (some .int)]
def wsX5_ownerAnew : List Cond := .code yX5_ownerAnew cX5_ownerAnew 2 (some .int) :: ((wsX5_ownerAnew_r1 ++ (wsX5_ownerAnew_r2 ++ wsX5_ownerAnew_r3)) ++ wsX50)
def wsX5_asks_r1 : List Cond := [Cond.fieldLink RX5 73 "RestitutoryModel" "things" "I", Cond.methodLink RX5 84 yX5_isPerson, Cond.instanceMethod yX5_isPerson, Cond.selects RX5 yX5_isPerson yX5_isPerson, Cond.initialized RX5, Cond.code yX5_isPerson cX5_isPerson 2 (some .boolean), Cond.fieldLink RX5 66 "RestitutoryModel" "people" "I", Cond.methodLink RX5 69 yX5_in, Cond.static yX5_in, Cond.code yX5_in cX5_in 3 (some .boolean), Cond.methodLink RX5 80 yX5_goes, Cond.instanceMethod yX5_goes, Cond.selects RX5 yX5_goes yX5_goes, Cond.code yX5_goes cX5_goes 4 (some .boolean), Cond.fieldLink RX5 63 "RestitutoryModel" "last" "I", Cond.methodLink RX5 130 yX5_ownerOf, Cond.instanceMethod yX5_ownerOf, Cond.selects RX5 yX5_ownerOf yX5_ownerOf, Cond.code yX5_ownerOf cX5_ownerOf 9 (some .int), Cond.fieldLink RX5 42 "RestitutoryModel" "parties" "[I", Cond.fieldLink RX5 60 "RestitutoryModel" "order" "[I", Cond.fieldLink RX5 51 "RestitutoryModel" "years" "[I", Cond.fieldLink RX5 7 "RestitutoryModel" "now" "I", Cond.fieldLink RX5 45 "RestitutoryModel" "kinds" "[I"]
def wsX5_asks_r2 : List Cond := [Cond.fieldLink RX5 30 "RestitutoryModel" "faiths" "[I", Cond.fieldLink RX5 48 "RestitutoryModel" "lands" "[I", Cond.fieldLink RX5 57 "RestitutoryModel" "settled" "[Z", Cond.fieldLink RX5 17 "RestitutoryModel" "dead" "[Z", Cond.methodLink RX5 121 yX5_lays, Cond.instanceMethod yX5_lays, Cond.selects RX5 yX5_lays yX5_lays, Cond.code yX5_lays cX5_lays 5 (some .int), Cond.fieldLink RX5 39 "RestitutoryModel" "stationMany" "[I", Cond.methodLink RX5 124 yX5_loses, Cond.instanceMethod yX5_loses, Cond.selects RX5 yX5_loses yX5_loses, Cond.code yX5_loses cX5_loses 5 (some .boolean), Cond.fieldLink RX5 54 "RestitutoryModel" "rebutted" "[Z", Cond.fieldLink RX5 13 "RestitutoryModel" "groups" "[I", Cond.methodLink RX5 101 yX5_persecutes, Cond.instanceMethod yX5_persecutes, Cond.selects RX5 yX5_persecutes yX5_persecutes, Cond.code yX5_persecutes cX5_persecutes 6 (some .boolean), Cond.fieldLink RX5 94 "RestitutoryModel" "manyPersecutions" "I", Cond.fieldLink RX5 27 "RestitutoryModel" "persecutions" "[I", Cond.methodLink RX5 111 yX5_findsHeir, Cond.instanceMethod yX5_findsHeir, Cond.selects RX5 yX5_findsHeir yX5_findsHeir]
def wsX5_asks_r3 : List Cond := [Cond.code yX5_findsHeir cX5_findsHeir 5 (some .int), Cond.fieldLink RX5 24 "RestitutoryModel" "heirMany" "[I", Cond.fieldLink RX5 21 "RestitutoryModel" "heirs" "[I", Cond.methodLink RX5 108 yX5_nearOf, Cond.instanceMethod yX5_nearOf, Cond.selects RX5 yX5_nearOf yX5_nearOf, Cond.code yX5_nearOf cX5_nearOf 5 (some .int), Cond.methodLink RX5 104 yX5_livingOf, Cond.instanceMethod yX5_livingOf, Cond.selects RX5 yX5_livingOf yX5_livingOf, Cond.code yX5_livingOf cX5_livingOf 3 (some .int), Cond.methodLink RX5 127 yX5_holderOf, Cond.instanceMethod yX5_holderOf, Cond.selects RX5 yX5_holderOf yX5_holderOf, Cond.code yX5_holderOf cX5_holderOf 3 (some .int)]
def wsX5_asks : List Cond := .code yX5_asks cX5_asks 4 (some .int) :: ((wsX5_asks_r1 ++ (wsX5_asks_r2 ++ wsX5_asks_r3)) ++ wsX50)
def wsJ9_abs_0f7a4 : List Cond := .code yJ9_abs_0f7a4 cJ9_abs_0f7a4 1 (some .int) :: ([])
def wsL_person_r1 : List Cond := [Cond.classLink RL 13 "java/lang/IndexOutOfBoundsException", Cond.classLink RL 15 "java/lang/IllegalStateException", Cond.methodLink RL 7 yX4_person, Cond.instanceMethod yX4_person, Cond.selects RX4 yX4_person yX4_person, Cond.initialized RX4, Cond.code yX4_person cX4_person 3 (some .int), Cond.classLink RX4 42 "java/lang/IllegalStateException", Cond.initialized "java/lang/IllegalStateException", Cond.fieldLink RX4 39 "Restitutory" "peopleCount" "I", Cond.fieldLink RX4 11 "Restitutory" "people" "[LRestitutory$Person;", Cond.classLink RX4 9 RX1, Cond.instantiable RX1 6, Cond.initialized RX1, Cond.methodLink RX4 35 yX4_requireGroup, Cond.static yX4_requireGroup, Cond.code yX4_requireGroup cX4_requireGroup 1 none, Cond.classLink RX4 157 "java/lang/IndexOutOfBoundsException", Cond.initialized "java/lang/IndexOutOfBoundsException", Cond.methodLink RX4 49 yX1_init, Cond.instanceMethod yX1_init, Cond.code yX1_init cX1_init 3 none, Cond.methodLink RX1 3 objectInit, Cond.instanceMethod objectInit]
def wsL_person_r2 : List Cond := [Cond.code objectInit ⟨#[0xb1]⟩ 1 none, Cond.classLink RX1 9 RX1, Cond.fieldLink RX1 11 "Restitutory$Person" "heirs" "[LRestitutory$Person;", Cond.fieldLink RX1 15 "Restitutory$Person" "number" "I", Cond.fieldLink RX1 19 "Restitutory$Person" "group" "I"]
def wsL_person : List Cond := .codeWith yL_person cL_person 4 (some .int) [(0, 9, 12, 13), (0, 9, 15, 15)] :: ((wsL_person_r1 ++ wsL_person_r2) ++ wsX40 ++ wsX10 ++ (vx_atS RX4 46 "java/lang/IllegalStateException" ["java/lang/RuntimeException", "java/lang/Exception"]).filter goodWord ++ (vx_atS RX4 161 "java/lang/IndexOutOfBoundsException" ["java/lang/RuntimeException", "java/lang/Exception"]).filter goodWord)
def wsL_die : List Cond := .codeWith yL_die cL_die 3 (some .int) [(0, 5, 8, 13), (0, 5, 11, 15)] :: ([.classLink RL 13 "java/lang/IndexOutOfBoundsException", .classLink RL 15 "java/lang/IllegalStateException", .methodLink RL 17 yX4_die, .instanceMethod yX4_die, .selects RX4 yX4_die yX4_die, .initialized RX4, .code yX4_die cX4_die 3 none, .classLink RX4 42 "java/lang/IllegalStateException", .initialized "java/lang/IllegalStateException", .fieldLink RX4 56 "Restitutory$Person" "dead" "Z", .methodLink RX4 52 yX4_personNumbered, .instanceMethod yX4_personNumbered, .selects RX4 yX4_personNumbered yX4_personNumbered, .code yX4_personNumbered cX4_personNumbered 3 (some (.object "Restitutory$Person")), .classLink RX4 157 "java/lang/IndexOutOfBoundsException", .initialized "java/lang/IndexOutOfBoundsException", .fieldLink RX4 11 "Restitutory" "people" "[LRestitutory$Person;"] ++ wsX10 ++ wsX40 ++ (vx_atS RX4 46 "java/lang/IllegalStateException" ["java/lang/RuntimeException", "java/lang/Exception"]).filter goodWord ++ (vx_atS RX4 161 "java/lang/IndexOutOfBoundsException" ["java/lang/RuntimeException", "java/lang/Exception"]).filter goodWord)
def wsL_heir_r1 : List Cond := [Cond.classLink RL 13 "java/lang/IndexOutOfBoundsException", Cond.classLink RL 25 "java/lang/IllegalArgumentException", Cond.classLink RL 15 "java/lang/IllegalStateException", Cond.methodLink RL 21 yX4_heir, Cond.instanceMethod yX4_heir, Cond.selects RX4 yX4_heir yX4_heir, Cond.initialized RX4, Cond.code yX4_heir cX4_heir 5 (some .int), Cond.classLink RX4 62 "java/lang/IllegalArgumentException", Cond.initialized "java/lang/IllegalArgumentException", Cond.classLink RX4 42 "java/lang/IllegalStateException", Cond.initialized "java/lang/IllegalStateException", Cond.fieldLink RX4 71 "Restitutory$Person" "heirCount" "I", Cond.fieldLink RX4 74 "Restitutory$Person" "heirs" "[LRestitutory$Person;", Cond.methodLink RX4 52 yX4_personNumbered, Cond.instanceMethod yX4_personNumbered, Cond.selects RX4 yX4_personNumbered yX4_personNumbered, Cond.code yX4_personNumbered cX4_personNumbered 3 (some (.object "Restitutory$Person")), Cond.classLink RX4 157 "java/lang/IndexOutOfBoundsException", Cond.initialized "java/lang/IndexOutOfBoundsException", Cond.fieldLink RX4 11 "Restitutory" "people" "[LRestitutory$Person;", Cond.methodLink RX4 67 yX1_hasToldHeir, Cond.instanceMethod yX1_hasToldHeir, Cond.selects RX1 yX1_hasToldHeir yX1_hasToldHeir]
def wsL_heir_r2 : List Cond := [Cond.initialized RX1, Cond.code yX1_hasToldHeir cX1_hasToldHeir 6 (some .boolean), Cond.fieldLink RX1 11 "Restitutory$Person" "heirs" "[LRestitutory$Person;"]
def wsL_heir : List Cond := .codeWith yL_heir cL_heir 5 (some .int) [(0, 10, 13, 13), (0, 10, 17, 25), (0, 10, 21, 15)] :: ((wsL_heir_r1 ++ wsL_heir_r2) ++ wsX10 ++ wsX40 ++ (vx_atS RX4 66 "java/lang/IllegalArgumentException" ["java/lang/RuntimeException", "java/lang/Exception"]).filter goodWord ++ (vx_atS RX4 46 "java/lang/IllegalStateException" ["java/lang/RuntimeException", "java/lang/Exception"]).filter goodWord ++ (vx_atS RX4 161 "java/lang/IndexOutOfBoundsException" ["java/lang/RuntimeException", "java/lang/Exception"]).filter goodWord)
def wsL_persecution_r1 : List Cond := [Cond.classLink RL 13 "java/lang/IndexOutOfBoundsException", Cond.classLink RL 25 "java/lang/IllegalArgumentException", Cond.classLink RL 15 "java/lang/IllegalStateException", Cond.methodLink RL 27 yX4_persecution, Cond.instanceMethod yX4_persecution, Cond.selects RX4 yX4_persecution yX4_persecution, Cond.initialized RX4, Cond.code yX4_persecution cX4_persecution 5 (some .int), Cond.classLink RX4 42 "java/lang/IllegalStateException", Cond.initialized "java/lang/IllegalStateException", Cond.fieldLink RX4 86 "Restitutory" "persecutionCount" "I", Cond.fieldLink RX4 17 "Restitutory" "persecutions" "[LRestitutory$Persecution;", Cond.classLink RX4 15 RX0, Cond.instantiable RX0 4, Cond.initialized RX0, Cond.methodLink RX4 35 yX4_requireGroup, Cond.static yX4_requireGroup, Cond.code yX4_requireGroup cX4_requireGroup 1 none, Cond.classLink RX4 157 "java/lang/IndexOutOfBoundsException", Cond.initialized "java/lang/IndexOutOfBoundsException", Cond.methodLink RX4 79 yX4_requireLand, Cond.static yX4_requireLand, Cond.code yX4_requireLand cX4_requireLand 1 none, Cond.methodLink RX4 82 yX4_requireRange]
def wsL_persecution_r2 : List Cond := [Cond.static yX4_requireRange, Cond.code yX4_requireRange cX4_requireRange 3 none, Cond.classLink RX4 62 "java/lang/IllegalArgumentException", Cond.initialized "java/lang/IllegalArgumentException", Cond.methodLink RX4 91 yX0_init, Cond.instanceMethod yX0_init, Cond.code yX0_init cX0_init 5 none, Cond.methodLink RX0 1 objectInit, Cond.instanceMethod objectInit, Cond.code objectInit ⟨#[0xb1]⟩ 1 none, Cond.fieldLink RX0 7 "Restitutory$Persecution" "group" "I", Cond.fieldLink RX0 13 "Restitutory$Persecution" "land" "I", Cond.fieldLink RX0 16 "Restitutory$Persecution" "from" "I", Cond.fieldLink RX0 19 "Restitutory$Persecution" "to" "I"]
def wsL_persecution : List Cond := .codeWith yL_persecution cL_persecution 7 (some .int) [(0, 14, 17, 13), (0, 14, 21, 25), (0, 14, 25, 15)] :: ((wsL_persecution_r1 ++ wsL_persecution_r2) ++ wsX40 ++ wsX00 ++ (vx_atS RX4 46 "java/lang/IllegalStateException" ["java/lang/RuntimeException", "java/lang/Exception"]).filter goodWord ++ (vx_atS RX4 161 "java/lang/IndexOutOfBoundsException" ["java/lang/RuntimeException", "java/lang/Exception"]).filter goodWord ++ (vx_atS RX4 66 "java/lang/IllegalArgumentException" ["java/lang/RuntimeException", "java/lang/Exception"]).filter goodWord)
def wsL_faith : List Cond := .codeWith yL_faith cL_faith 5 (some .int) [(0, 10, 13, 13), (0, 10, 17, 25)] :: ([.classLink RL 13 "java/lang/IndexOutOfBoundsException", .classLink RL 25 "java/lang/IllegalArgumentException", .methodLink RL 31 yX4_faith, .instanceMethod yX4_faith, .selects RX4 yX4_faith yX4_faith, .initialized RX4, .code yX4_faith cX4_faith 4 (some .int), .fieldLink RX4 21 "Restitutory" "faithYears" "[I", .methodLink RX4 79 yX4_requireLand, .static yX4_requireLand, .code yX4_requireLand cX4_requireLand 1 none, .classLink RX4 157 "java/lang/IndexOutOfBoundsException", .initialized "java/lang/IndexOutOfBoundsException", .methodLink RX4 82 yX4_requireRange, .static yX4_requireRange, .code yX4_requireRange cX4_requireRange 3 none, .classLink RX4 62 "java/lang/IllegalArgumentException", .initialized "java/lang/IllegalArgumentException"] ++ wsX40 ++ (vx_atS RX4 161 "java/lang/IndexOutOfBoundsException" ["java/lang/RuntimeException", "java/lang/Exception"]).filter goodWord ++ (vx_atS RX4 66 "java/lang/IllegalArgumentException" ["java/lang/RuntimeException", "java/lang/Exception"]).filter goodWord)
def wsL_now : List Cond := .codeWith yL_now cL_now 4 (some .int) [(0, 9, 12, 25)] :: ([.classLink RL 25 "java/lang/IllegalArgumentException", .methodLink RL 34 yX4_now, .instanceMethod yX4_now, .selects RX4 yX4_now yX4_now, .initialized RX4, .code yX4_now cX4_now 3 (some .int), .fieldLink RX4 25 "Restitutory" "currentYear" "I", .methodLink RX4 82 yX4_requireRange, .static yX4_requireRange, .code yX4_requireRange cX4_requireRange 3 none, .classLink RX4 62 "java/lang/IllegalArgumentException", .initialized "java/lang/IllegalArgumentException"] ++ wsX40 ++ (vx_atS RX4 66 "java/lang/IllegalArgumentException" ["java/lang/RuntimeException", "java/lang/Exception"]).filter goodWord)
def wsL_thing_r1 : List Cond := [Cond.classLink RL 25 "java/lang/IllegalArgumentException", Cond.classLink RL 15 "java/lang/IllegalStateException", Cond.methodLink RL 37 yX4_thing, Cond.instanceMethod yX4_thing, Cond.selects RX4 yX4_thing yX4_thing, Cond.initialized RX4, Cond.code yX4_thing cX4_thing 4 (some .int), Cond.classLink RX4 42 "java/lang/IllegalStateException", Cond.initialized "java/lang/IllegalStateException", Cond.constant RX4 94 (65535), Cond.fieldLink RX4 95 "Restitutory" "thingCount" "I", Cond.fieldLink RX4 31 "Restitutory" "things" "[LRestitutory$Thing;", Cond.classLink RX4 29 RX3, Cond.instantiable RX3 6, Cond.initialized RX3, Cond.methodLink RX4 82 yX4_requireRange, Cond.static yX4_requireRange, Cond.code yX4_requireRange cX4_requireRange 3 none, Cond.classLink RX4 62 "java/lang/IllegalArgumentException", Cond.initialized "java/lang/IllegalArgumentException", Cond.methodLink RX4 100 yX3_init, Cond.instanceMethod yX3_init, Cond.code yX3_init cX3_init 3 none, Cond.methodLink RX3 3 objectInit]
def wsL_thing_r2 : List Cond := [Cond.instanceMethod objectInit, Cond.code objectInit ⟨#[0xb1]⟩ 1 none, Cond.classLink RX3 9 RX2, Cond.fieldLink RX3 11 "Restitutory$Thing" "stations" "[LRestitutory$Station;", Cond.fieldLink RX3 17 "Restitutory$Thing" "marks" "I", Cond.fieldLink RX3 21 "Restitutory$Thing" "size" "I"]
def wsL_thing : List Cond := .codeWith yL_thing cL_thing 5 (some .int) [(0, 10, 13, 25), (0, 10, 17, 15)] :: ((wsL_thing_r1 ++ wsL_thing_r2) ++ wsX40 ++ wsX30 ++ (vx_atS RX4 46 "java/lang/IllegalStateException" ["java/lang/RuntimeException", "java/lang/Exception"]).filter goodWord ++ (vx_atS RX4 66 "java/lang/IllegalArgumentException" ["java/lang/RuntimeException", "java/lang/Exception"]).filter goodWord)
def wsL_mark : List Cond := .codeWith yL_mark cL_mark 6 (some .int) [(0, 19, 22, 13), (0, 19, 26, 25)] :: ([.classLink RL 13 "java/lang/IndexOutOfBoundsException", .classLink RL 25 "java/lang/IllegalArgumentException", .methodLink RL 40 yX4_mark, .instanceMethod yX4_mark, .selects RX4 yX4_mark yX4_mark, .initialized RX4, .code yX4_mark cX4_mark 7 (some .boolean), .fieldLink RX4 105 "Restitutory$Thing" "marks" "I", .methodLink RX4 101 yX4_thingNumbered, .instanceMethod yX4_thingNumbered, .selects RX4 yX4_thingNumbered yX4_thingNumbered, .code yX4_thingNumbered cX4_thingNumbered 3 (some (.object "Restitutory$Thing")), .classLink RX4 157 "java/lang/IndexOutOfBoundsException", .initialized "java/lang/IndexOutOfBoundsException", .fieldLink RX4 31 "Restitutory" "things" "[LRestitutory$Thing;", .methodLink RX4 82 yX4_requireRange, .static yX4_requireRange, .code yX4_requireRange cX4_requireRange 3 none, .classLink RX4 62 "java/lang/IllegalArgumentException", .initialized "java/lang/IllegalArgumentException"] ++ wsX30 ++ wsX40 ++ (vx_atS RX4 161 "java/lang/IndexOutOfBoundsException" ["java/lang/RuntimeException", "java/lang/Exception"]).filter goodWord ++ (vx_atS RX4 66 "java/lang/IllegalArgumentException" ["java/lang/RuntimeException", "java/lang/Exception"]).filter goodWord)
def wsL_station_r1 : List Cond := [Cond.classLink RL 13 "java/lang/IndexOutOfBoundsException", Cond.classLink RL 25 "java/lang/IllegalArgumentException", Cond.classLink RL 15 "java/lang/IllegalStateException", Cond.methodLink RL 44 yX4_station, Cond.instanceMethod yX4_station, Cond.selects RX4 yX4_station yX4_station, Cond.initialized RX4, Cond.code yX4_station cX4_station 10 (some .int), Cond.classLink RX4 42 "java/lang/IllegalStateException", Cond.initialized "java/lang/IllegalStateException", Cond.fieldLink RX4 25 "Restitutory" "currentYear" "I", Cond.fieldLink RX4 108 "Restitutory$Thing" "stationCount" "I", Cond.classLink RX4 113 RX2, Cond.instantiable RX2 9, Cond.initialized RX2, Cond.fieldLink RX4 118 "Restitutory$Thing" "stations" "[LRestitutory$Station;", Cond.methodLink RX4 101 yX4_thingNumbered, Cond.instanceMethod yX4_thingNumbered, Cond.selects RX4 yX4_thingNumbered yX4_thingNumbered, Cond.code yX4_thingNumbered cX4_thingNumbered 3 (some (.object "Restitutory$Thing")), Cond.classLink RX4 157 "java/lang/IndexOutOfBoundsException", Cond.initialized "java/lang/IndexOutOfBoundsException", Cond.fieldLink RX4 31 "Restitutory" "things" "[LRestitutory$Thing;", Cond.methodLink RX4 52 yX4_personNumbered]
def wsL_station_r2 : List Cond := [Cond.instanceMethod yX4_personNumbered, Cond.selects RX4 yX4_personNumbered yX4_personNumbered, Cond.code yX4_personNumbered cX4_personNumbered 3 (some (.object "Restitutory$Person")), Cond.fieldLink RX4 11 "Restitutory" "people" "[LRestitutory$Person;", Cond.methodLink RX4 79 yX4_requireLand, Cond.static yX4_requireLand, Cond.code yX4_requireLand cX4_requireLand 1 none, Cond.methodLink RX4 82 yX4_requireRange, Cond.static yX4_requireRange, Cond.code yX4_requireRange cX4_requireRange 3 none, Cond.classLink RX4 62 "java/lang/IllegalArgumentException", Cond.initialized "java/lang/IllegalArgumentException", Cond.methodLink RX4 115 yX2_init, Cond.instanceMethod yX2_init, Cond.code yX2_init cX2_init 6 none, Cond.methodLink RX2 1 objectInit, Cond.instanceMethod objectInit, Cond.code objectInit ⟨#[0xb1]⟩ 1 none, Cond.fieldLink RX2 7 "Restitutory$Station" "number" "I", Cond.fieldLink RX2 13 "Restitutory$Station" "party" "LRestitutory$Person;", Cond.fieldLink RX2 17 "Restitutory$Station" "kind" "I", Cond.fieldLink RX2 20 "Restitutory$Station" "land" "I", Cond.fieldLink RX2 23 "Restitutory$Station" "year" "I", Cond.methodLink RX4 122 yX3_putInOrder]
def wsL_station_r3 : List Cond := [Cond.instanceMethod yX3_putInOrder, Cond.selects RX3 yX3_putInOrder yX3_putInOrder, Cond.initialized RX3, Cond.code yX3_putInOrder cX3_putInOrder 4 none, Cond.fieldLink RX3 35 "Restitutory$Thing" "last" "LRestitutory$Station;", Cond.fieldLink RX3 43 "Restitutory$Station" "year" "I", Cond.fieldLink RX3 46 "Restitutory$Station" "ahead" "LRestitutory$Station;", Cond.fieldLink RX3 49 "Restitutory$Thing" "first" "LRestitutory$Station;", Cond.fieldLink RX3 52 "Restitutory$Station" "next" "LRestitutory$Station;"]
def wsL_station : List Cond := .codeWith yL_station cL_station 8 (some .int) [(0, 16, 19, 13), (0, 16, 23, 25), (0, 16, 27, 15)] :: ((wsL_station_r1 ++ (wsL_station_r2 ++ wsL_station_r3)) ++ wsX40 ++ wsX30 ++ wsX20 ++ (vx_atS RX4 46 "java/lang/IllegalStateException" ["java/lang/RuntimeException", "java/lang/Exception"]).filter goodWord ++ (vx_atS RX4 161 "java/lang/IndexOutOfBoundsException" ["java/lang/RuntimeException", "java/lang/Exception"]).filter goodWord ++ (vx_atS RX4 66 "java/lang/IllegalArgumentException" ["java/lang/RuntimeException", "java/lang/Exception"]).filter goodWord)
def wsL_rebut : List Cond := .codeWith yL_rebut cL_rebut 6 (some .int) [(0, 19, 22, 13), (0, 19, 26, 25)] :: ([.classLink RL 13 "java/lang/IndexOutOfBoundsException", .classLink RL 25 "java/lang/IllegalArgumentException", .methodLink RL 48 yX4_rebut, .instanceMethod yX4_rebut, .selects RX4 yX4_rebut yX4_rebut, .initialized RX4, .code yX4_rebut cX4_rebut 6 (some .boolean), .classLink RX4 62 "java/lang/IllegalArgumentException", .initialized "java/lang/IllegalArgumentException", .fieldLink RX4 130 "Restitutory$Station" "kind" "I", .fieldLink RX4 135 "Restitutory$Station" "rebutted" "Z", .methodLink RX4 126 yX4_stationNumbered, .instanceMethod yX4_stationNumbered, .selects RX4 yX4_stationNumbered yX4_stationNumbered, .code yX4_stationNumbered cX4_stationNumbered 5 (some (.object "Restitutory$Station")), .classLink RX4 157 "java/lang/IndexOutOfBoundsException", .initialized "java/lang/IndexOutOfBoundsException", .fieldLink RX4 118 "Restitutory$Thing" "stations" "[LRestitutory$Station;", .methodLink RX4 101 yX4_thingNumbered, .instanceMethod yX4_thingNumbered, .selects RX4 yX4_thingNumbered yX4_thingNumbered, .code yX4_thingNumbered cX4_thingNumbered 3 (some (.object "Restitutory$Thing")), .fieldLink RX4 31 "Restitutory" "things" "[LRestitutory$Thing;"] ++ wsX20 ++ wsX30 ++ wsX40 ++ (vx_atS RX4 66 "java/lang/IllegalArgumentException" ["java/lang/RuntimeException", "java/lang/Exception"]).filter goodWord ++ (vx_atS RX4 161 "java/lang/IndexOutOfBoundsException" ["java/lang/RuntimeException", "java/lang/Exception"]).filter goodWord)
def wsL_settle : List Cond := .codeWith yL_settle cL_settle 6 (some .int) [(0, 19, 22, 13)] :: ([.classLink RL 13 "java/lang/IndexOutOfBoundsException", .methodLink RL 51 yX4_settle, .instanceMethod yX4_settle, .selects RX4 yX4_settle yX4_settle, .initialized RX4, .code yX4_settle cX4_settle 6 (some .boolean), .fieldLink RX4 138 "Restitutory$Station" "settled" "Z", .methodLink RX4 126 yX4_stationNumbered, .instanceMethod yX4_stationNumbered, .selects RX4 yX4_stationNumbered yX4_stationNumbered, .code yX4_stationNumbered cX4_stationNumbered 5 (some (.object "Restitutory$Station")), .classLink RX4 157 "java/lang/IndexOutOfBoundsException", .initialized "java/lang/IndexOutOfBoundsException", .fieldLink RX4 118 "Restitutory$Thing" "stations" "[LRestitutory$Station;", .methodLink RX4 101 yX4_thingNumbered, .instanceMethod yX4_thingNumbered, .selects RX4 yX4_thingNumbered yX4_thingNumbered, .code yX4_thingNumbered cX4_thingNumbered 3 (some (.object "Restitutory$Thing")), .fieldLink RX4 31 "Restitutory" "things" "[LRestitutory$Thing;"] ++ wsX20 ++ wsX30 ++ wsX40 ++ (vx_atS RX4 161 "java/lang/IndexOutOfBoundsException" ["java/lang/RuntimeException", "java/lang/Exception"]).filter goodWord)
def wsL_isPersecuted_r1 : List Cond := [Cond.classLink RL 13 "java/lang/IndexOutOfBoundsException", Cond.classLink RL 25 "java/lang/IllegalArgumentException", Cond.methodLink RL 54 yX4_isPersecuted, Cond.instanceMethod yX4_isPersecuted, Cond.selects RX4 yX4_isPersecuted yX4_isPersecuted, Cond.initialized RX4, Cond.code yX4_isPersecuted cX4_isPersecuted 5 (some .boolean), Cond.methodLink RX4 52 yX4_personNumbered, Cond.instanceMethod yX4_personNumbered, Cond.selects RX4 yX4_personNumbered yX4_personNumbered, Cond.code yX4_personNumbered cX4_personNumbered 3 (some (.object "Restitutory$Person")), Cond.classLink RX4 157 "java/lang/IndexOutOfBoundsException", Cond.initialized "java/lang/IndexOutOfBoundsException", Cond.fieldLink RX4 11 "Restitutory" "people" "[LRestitutory$Person;", Cond.methodLink RX4 79 yX4_requireLand, Cond.static yX4_requireLand, Cond.code yX4_requireLand cX4_requireLand 1 none, Cond.methodLink RX4 82 yX4_requireRange, Cond.static yX4_requireRange, Cond.code yX4_requireRange cX4_requireRange 3 none, Cond.classLink RX4 62 "java/lang/IllegalArgumentException", Cond.initialized "java/lang/IllegalArgumentException", Cond.methodLink RX4 141 yX4_isDarkFor, Cond.instanceMethod yX4_isDarkFor]
def wsL_isPersecuted_r2 : List Cond := [Cond.selects RX4 yX4_isDarkFor yX4_isDarkFor, Cond.code yX4_isDarkFor cX4_isDarkFor 8 (some .boolean), Cond.fieldLink RX4 17 "Restitutory" "persecutions" "[LRestitutory$Persecution;", Cond.fieldLink RX4 203 "Restitutory$Person" "group" "I", Cond.methodLink RX4 206 yX0_strikes, Cond.instanceMethod yX0_strikes, Cond.selects RX0 yX0_strikes yX0_strikes, Cond.initialized RX0, Cond.code yX0_strikes cX0_strikes 4 (some .boolean), Cond.fieldLink RX0 7 "Restitutory$Persecution" "group" "I", Cond.fieldLink RX0 13 "Restitutory$Persecution" "land" "I", Cond.fieldLink RX0 16 "Restitutory$Persecution" "from" "I", Cond.fieldLink RX0 19 "Restitutory$Persecution" "to" "I"]
def wsL_isPersecuted : List Cond := .codeWith yL_isPersecuted cL_isPersecuted 6 (some .int) [(0, 19, 22, 13), (0, 19, 26, 25)] :: ((wsL_isPersecuted_r1 ++ wsL_isPersecuted_r2) ++ wsX40 ++ wsX10 ++ wsX00 ++ (vx_atS RX4 161 "java/lang/IndexOutOfBoundsException" ["java/lang/RuntimeException", "java/lang/Exception"]).filter goodWord ++ (vx_atS RX4 66 "java/lang/IllegalArgumentException" ["java/lang/RuntimeException", "java/lang/Exception"]).filter goodWord)
def wsL_heirOf_r1 : List Cond := [Cond.classLink RL 13 "java/lang/IndexOutOfBoundsException", Cond.methodLink RL 58 yX4_heirOf, Cond.instanceMethod yX4_heirOf, Cond.selects RX4 yX4_heirOf yX4_heirOf, Cond.initialized RX4, Cond.code yX4_heirOf cX4_heirOf 2 (some .int), Cond.methodLink RX4 52 yX4_personNumbered, Cond.instanceMethod yX4_personNumbered, Cond.selects RX4 yX4_personNumbered yX4_personNumbered, Cond.code yX4_personNumbered cX4_personNumbered 3 (some (.object "Restitutory$Person")), Cond.classLink RX4 157 "java/lang/IndexOutOfBoundsException", Cond.initialized "java/lang/IndexOutOfBoundsException", Cond.fieldLink RX4 11 "Restitutory" "people" "[LRestitutory$Person;", Cond.methodLink RX4 145 yX4_livingHeir, Cond.static yX4_livingHeir, Cond.code yX4_livingHeir cX4_livingHeir 7 (some (.object "Restitutory$Person")), Cond.fieldLink RX4 74 "Restitutory$Person" "heirs" "[LRestitutory$Person;", Cond.methodLink RX4 184 yX4_livingFor, Cond.static yX4_livingFor, Cond.code yX4_livingFor cX4_livingFor 2 (some (.object "Restitutory$Person")), Cond.fieldLink RX4 56 "Restitutory$Person" "dead" "Z", Cond.methodLink RX4 149 yX4_numberOf, Cond.static yX4_numberOf, Cond.code yX4_numberOf cX4_numberOf 1 (some .int)]
def wsL_heirOf_r2 : List Cond := [Cond.fieldLink RX4 202 "Restitutory$Person" "number" "I"]
def wsL_heirOf : List Cond := .codeWith yL_heirOf cL_heirOf 4 (some .int) [(0, 9, 12, 13)] :: ((wsL_heirOf_r1 ++ wsL_heirOf_r2) ++ wsX40 ++ wsX10 ++ (vx_atS RX4 161 "java/lang/IndexOutOfBoundsException" ["java/lang/RuntimeException", "java/lang/Exception"]).filter goodWord)
def wsL_likeness_r1 : List Cond := [Cond.classLink RL 13 "java/lang/IndexOutOfBoundsException", Cond.methodLink RL 61 yX4_likeness, Cond.instanceMethod yX4_likeness, Cond.selects RX4 yX4_likeness yX4_likeness, Cond.initialized RX4, Cond.code yX4_likeness cX4_likeness 3 (some .int), Cond.methodLink RX4 101 yX4_thingNumbered, Cond.instanceMethod yX4_thingNumbered, Cond.selects RX4 yX4_thingNumbered yX4_thingNumbered, Cond.code yX4_thingNumbered cX4_thingNumbered 3 (some (.object "Restitutory$Thing")), Cond.classLink RX4 157 "java/lang/IndexOutOfBoundsException", Cond.initialized "java/lang/IndexOutOfBoundsException", Cond.fieldLink RX4 31 "Restitutory" "things" "[LRestitutory$Thing;", Cond.methodLink RX4 153 yX3_likenessTo, Cond.instanceMethod yX3_likenessTo, Cond.selects RX3 yX3_likenessTo yX3_likenessTo, Cond.initialized RX3, Cond.code yX3_likenessTo cX3_likenessTo 4 (some .int), Cond.fieldLink RX3 17 "Restitutory$Thing" "marks" "I", Cond.fieldLink RX3 21 "Restitutory$Thing" "size" "I", Cond.methodLink RX3 30 Lib.Math.abs.name, Cond.static Lib.Math.abs.name, Cond.initialized "java/lang/Math", Cond.code Lib.Math.abs.name Lib.Math.abs.code 1 (some .int)]
def wsL_likeness_r2 : List Cond := [Cond.methodLink RX3 24 yJ6_bitCount_0f7a4, Cond.static yJ6_bitCount_0f7a4, Cond.initialized RJ6, Cond.code yJ6_bitCount_0f7a4 cJ6_bitCount_0f7a4 1 (some .int), Cond.constant RJ6 265 (1431655765), Cond.constant RJ6 266 (858993459), Cond.constant RJ6 267 (252645135)]
def wsL_likeness : List Cond := .codeWith yL_likeness cL_likeness 5 (some .int) [(0, 10, 13, 13)] :: ((wsL_likeness_r1 ++ wsL_likeness_r2) ++ wsX40 ++ wsX30 ++ (vx_atS RX4 161 "java/lang/IndexOutOfBoundsException" ["java/lang/RuntimeException", "java/lang/Exception"]).filter goodWord)
def wsL_likest_r1 : List Cond := [Cond.classLink RL 13 "java/lang/IndexOutOfBoundsException", Cond.methodLink RL 64 yX4_likest, Cond.instanceMethod yX4_likest, Cond.selects RX4 yX4_likest yX4_likest, Cond.initialized RX4, Cond.code yX4_likest cX4_likest 8 (some .int), Cond.fieldLink RX4 31 "Restitutory" "things" "[LRestitutory$Thing;", Cond.methodLink RX4 101 yX4_thingNumbered, Cond.instanceMethod yX4_thingNumbered, Cond.selects RX4 yX4_thingNumbered yX4_thingNumbered, Cond.code yX4_thingNumbered cX4_thingNumbered 3 (some (.object "Restitutory$Thing")), Cond.classLink RX4 157 "java/lang/IndexOutOfBoundsException", Cond.initialized "java/lang/IndexOutOfBoundsException", Cond.methodLink RX4 153 yX3_likenessTo, Cond.instanceMethod yX3_likenessTo, Cond.selects RX3 yX3_likenessTo yX3_likenessTo, Cond.initialized RX3, Cond.code yX3_likenessTo cX3_likenessTo 4 (some .int), Cond.fieldLink RX3 17 "Restitutory$Thing" "marks" "I", Cond.fieldLink RX3 21 "Restitutory$Thing" "size" "I", Cond.methodLink RX3 30 Lib.Math.abs.name, Cond.static Lib.Math.abs.name, Cond.initialized "java/lang/Math", Cond.code Lib.Math.abs.name Lib.Math.abs.code 1 (some .int)]
def wsL_likest_r2 : List Cond := [Cond.methodLink RX3 24 yJ6_bitCount_0f7a4, Cond.static yJ6_bitCount_0f7a4, Cond.initialized RJ6, Cond.code yJ6_bitCount_0f7a4 cJ6_bitCount_0f7a4 1 (some .int), Cond.constant RJ6 265 (1431655765), Cond.constant RJ6 266 (858993459), Cond.constant RJ6 267 (252645135)]
def wsL_likest : List Cond := .codeWith yL_likest cL_likest 4 (some .int) [(0, 9, 12, 13)] :: ((wsL_likest_r1 ++ wsL_likest_r2) ++ wsX40 ++ wsX30 ++ (vx_atS RX4 161 "java/lang/IndexOutOfBoundsException" ["java/lang/RuntimeException", "java/lang/Exception"]).filter goodWord)
def wsL_stationAt : List Cond := .codeWith yL_stationAt cL_stationAt 5 (some .int) [(0, 10, 13, 13)] :: ([.classLink RL 13 "java/lang/IndexOutOfBoundsException", .methodLink RL 67 yX4_stationAt, .instanceMethod yX4_stationAt, .selects RX4 yX4_stationAt yX4_stationAt, .initialized RX4, .code yX4_stationAt cX4_stationAt 6 (some .int), .classLink RX4 157 "java/lang/IndexOutOfBoundsException", .initialized "java/lang/IndexOutOfBoundsException", .fieldLink RX4 162 "Restitutory$Thing" "first" "LRestitutory$Station;", .fieldLink RX4 166 "Restitutory$Station" "next" "LRestitutory$Station;", .fieldLink RX4 169 "Restitutory$Station" "number" "I", .methodLink RX4 101 yX4_thingNumbered, .instanceMethod yX4_thingNumbered, .selects RX4 yX4_thingNumbered yX4_thingNumbered, .code yX4_thingNumbered cX4_thingNumbered 3 (some (.object "Restitutory$Thing")), .fieldLink RX4 31 "Restitutory" "things" "[LRestitutory$Thing;"] ++ wsX30 ++ wsX20 ++ wsX40 ++ (vx_atS RX4 161 "java/lang/IndexOutOfBoundsException" ["java/lang/RuntimeException", "java/lang/Exception"]).filter goodWord)
def wsL_isLoss_r1 : List Cond := [Cond.classLink RL 13 "java/lang/IndexOutOfBoundsException", Cond.methodLink RL 70 yX4_isLoss, Cond.instanceMethod yX4_isLoss, Cond.selects RX4 yX4_isLoss yX4_isLoss, Cond.initialized RX4, Cond.code yX4_isLoss cX4_isLoss 3 (some .boolean), Cond.methodLink RX4 126 yX4_stationNumbered, Cond.instanceMethod yX4_stationNumbered, Cond.selects RX4 yX4_stationNumbered yX4_stationNumbered, Cond.code yX4_stationNumbered cX4_stationNumbered 5 (some (.object "Restitutory$Station")), Cond.classLink RX4 157 "java/lang/IndexOutOfBoundsException", Cond.initialized "java/lang/IndexOutOfBoundsException", Cond.fieldLink RX4 118 "Restitutory$Thing" "stations" "[LRestitutory$Station;", Cond.methodLink RX4 101 yX4_thingNumbered, Cond.instanceMethod yX4_thingNumbered, Cond.selects RX4 yX4_thingNumbered yX4_thingNumbered, Cond.code yX4_thingNumbered cX4_thingNumbered 3 (some (.object "Restitutory$Thing")), Cond.fieldLink RX4 31 "Restitutory" "things" "[LRestitutory$Thing;", Cond.methodLink RX4 172 yX4_takesAway, Cond.instanceMethod yX4_takesAway, Cond.selects RX4 yX4_takesAway yX4_takesAway, Cond.code yX4_takesAway cX4_takesAway 3 (some .boolean), Cond.fieldLink RX4 210 "Restitutory$Station" "ahead" "LRestitutory$Station;", Cond.fieldLink RX4 130 "Restitutory$Station" "kind" "I"]
def wsL_isLoss_r2 : List Cond := [Cond.fieldLink RX4 135 "Restitutory$Station" "rebutted" "Z", Cond.fieldLink RX4 213 "Restitutory$Station" "party" "LRestitutory$Person;", Cond.fieldLink RX4 217 "Restitutory$Station" "land" "I", Cond.fieldLink RX4 220 "Restitutory$Station" "year" "I", Cond.methodLink RX4 141 yX4_isDarkFor, Cond.instanceMethod yX4_isDarkFor, Cond.selects RX4 yX4_isDarkFor yX4_isDarkFor, Cond.code yX4_isDarkFor cX4_isDarkFor 8 (some .boolean), Cond.fieldLink RX4 17 "Restitutory" "persecutions" "[LRestitutory$Persecution;", Cond.fieldLink RX4 203 "Restitutory$Person" "group" "I", Cond.methodLink RX4 206 yX0_strikes, Cond.instanceMethod yX0_strikes, Cond.selects RX0 yX0_strikes yX0_strikes, Cond.initialized RX0, Cond.code yX0_strikes cX0_strikes 4 (some .boolean), Cond.fieldLink RX0 7 "Restitutory$Persecution" "group" "I", Cond.fieldLink RX0 13 "Restitutory$Persecution" "land" "I", Cond.fieldLink RX0 16 "Restitutory$Persecution" "from" "I", Cond.fieldLink RX0 19 "Restitutory$Persecution" "to" "I"]
def wsL_isLoss : List Cond := .codeWith yL_isLoss cL_isLoss 5 (some .int) [(0, 17, 20, 13)] :: ((wsL_isLoss_r1 ++ wsL_isLoss_r2) ++ wsX30 ++ wsX40 ++ wsX20 ++ wsX10 ++ wsX00 ++ (vx_atS RX4 161 "java/lang/IndexOutOfBoundsException" ["java/lang/RuntimeException", "java/lang/Exception"]).filter goodWord)
def wsL_holder : List Cond := .codeWith yL_holder cL_holder 4 (some .int) [(0, 9, 12, 13)] :: ([.classLink RL 13 "java/lang/IndexOutOfBoundsException", .methodLink RL 74 yX4_holder, .instanceMethod yX4_holder, .selects RX4 yX4_holder yX4_holder, .initialized RX4, .code yX4_holder cX4_holder 2 (some .int), .methodLink RX4 101 yX4_thingNumbered, .instanceMethod yX4_thingNumbered, .selects RX4 yX4_thingNumbered yX4_thingNumbered, .code yX4_thingNumbered cX4_thingNumbered 3 (some (.object "Restitutory$Thing")), .classLink RX4 157 "java/lang/IndexOutOfBoundsException", .initialized "java/lang/IndexOutOfBoundsException", .fieldLink RX4 31 "Restitutory" "things" "[LRestitutory$Thing;", .methodLink RX4 176 yX3_lastParty, .instanceMethod yX3_lastParty, .selects RX3 yX3_lastParty yX3_lastParty, .initialized RX3, .code yX3_lastParty cX3_lastParty 1 (some (.object "Restitutory$Person")), .fieldLink RX3 35 "Restitutory$Thing" "last" "LRestitutory$Station;", .fieldLink RX3 39 "Restitutory$Station" "party" "LRestitutory$Person;", .methodLink RX4 149 yX4_numberOf, .static yX4_numberOf, .code yX4_numberOf cX4_numberOf 1 (some .int), .fieldLink RX4 202 "Restitutory$Person" "number" "I"] ++ wsX40 ++ wsX30 ++ wsX20 ++ wsX10 ++ (vx_atS RX4 161 "java/lang/IndexOutOfBoundsException" ["java/lang/RuntimeException", "java/lang/Exception"]).filter goodWord)
def wsL_owner_r1 : List Cond := [Cond.classLink RL 13 "java/lang/IndexOutOfBoundsException", Cond.methodLink RL 77 yX4_owner, Cond.instanceMethod yX4_owner, Cond.selects RX4 yX4_owner yX4_owner, Cond.initialized RX4, Cond.code yX4_owner cX4_owner 2 (some .int), Cond.methodLink RX4 101 yX4_thingNumbered, Cond.instanceMethod yX4_thingNumbered, Cond.selects RX4 yX4_thingNumbered yX4_thingNumbered, Cond.code yX4_thingNumbered cX4_thingNumbered 3 (some (.object "Restitutory$Thing")), Cond.classLink RX4 157 "java/lang/IndexOutOfBoundsException", Cond.initialized "java/lang/IndexOutOfBoundsException", Cond.fieldLink RX4 31 "Restitutory" "things" "[LRestitutory$Thing;", Cond.methodLink RX4 180 yX4_titleFromFirst, Cond.instanceMethod yX4_titleFromFirst, Cond.selects RX4 yX4_titleFromFirst yX4_titleFromFirst, Cond.code yX4_titleFromFirst cX4_titleFromFirst 4 (some (.object "Restitutory$Person")), Cond.fieldLink RX4 162 "Restitutory$Thing" "first" "LRestitutory$Station;", Cond.fieldLink RX4 213 "Restitutory$Station" "party" "LRestitutory$Person;", Cond.fieldLink RX4 166 "Restitutory$Station" "next" "LRestitutory$Station;", Cond.methodLink RX4 223 yX4_bringsTitle, Cond.instanceMethod yX4_bringsTitle, Cond.selects RX4 yX4_bringsTitle yX4_bringsTitle, Cond.code yX4_bringsTitle cX4_bringsTitle 4 (some .boolean)]
def wsL_owner_r2 : List Cond := [Cond.fieldLink RX4 138 "Restitutory$Station" "settled" "Z", Cond.fieldLink RX4 210 "Restitutory$Station" "ahead" "LRestitutory$Station;", Cond.methodLink RX4 172 yX4_takesAway, Cond.instanceMethod yX4_takesAway, Cond.selects RX4 yX4_takesAway yX4_takesAway, Cond.code yX4_takesAway cX4_takesAway 3 (some .boolean), Cond.fieldLink RX4 130 "Restitutory$Station" "kind" "I", Cond.fieldLink RX4 135 "Restitutory$Station" "rebutted" "Z", Cond.fieldLink RX4 217 "Restitutory$Station" "land" "I", Cond.fieldLink RX4 220 "Restitutory$Station" "year" "I", Cond.methodLink RX4 141 yX4_isDarkFor, Cond.instanceMethod yX4_isDarkFor, Cond.selects RX4 yX4_isDarkFor yX4_isDarkFor, Cond.code yX4_isDarkFor cX4_isDarkFor 8 (some .boolean), Cond.fieldLink RX4 17 "Restitutory" "persecutions" "[LRestitutory$Persecution;", Cond.fieldLink RX4 203 "Restitutory$Person" "group" "I", Cond.methodLink RX4 206 yX0_strikes, Cond.instanceMethod yX0_strikes, Cond.selects RX0 yX0_strikes yX0_strikes, Cond.initialized RX0, Cond.code yX0_strikes cX0_strikes 4 (some .boolean), Cond.fieldLink RX0 7 "Restitutory$Persecution" "group" "I", Cond.fieldLink RX0 13 "Restitutory$Persecution" "land" "I", Cond.fieldLink RX0 16 "Restitutory$Persecution" "from" "I"]
def wsL_owner_r3 : List Cond := [Cond.fieldLink RX0 19 "Restitutory$Persecution" "to" "I", Cond.methodLink RX4 227 yX4_isKeptInGoodFaith, Cond.instanceMethod yX4_isKeptInGoodFaith, Cond.selects RX4 yX4_isKeptInGoodFaith yX4_isKeptInGoodFaith, Cond.code yX4_isKeptInGoodFaith cX4_isKeptInGoodFaith 4 (some .boolean), Cond.fieldLink RX4 21 "Restitutory" "faithYears" "[I", Cond.fieldLink RX4 25 "Restitutory" "currentYear" "I", Cond.methodLink RX4 184 yX4_livingFor, Cond.static yX4_livingFor, Cond.code yX4_livingFor cX4_livingFor 2 (some (.object "Restitutory$Person")), Cond.fieldLink RX4 56 "Restitutory$Person" "dead" "Z", Cond.methodLink RX4 145 yX4_livingHeir, Cond.static yX4_livingHeir, Cond.code yX4_livingHeir cX4_livingHeir 7 (some (.object "Restitutory$Person")), Cond.fieldLink RX4 74 "Restitutory$Person" "heirs" "[LRestitutory$Person;", Cond.methodLink RX4 149 yX4_numberOf, Cond.static yX4_numberOf, Cond.code yX4_numberOf cX4_numberOf 1 (some .int), Cond.fieldLink RX4 202 "Restitutory$Person" "number" "I"]
def wsL_owner : List Cond := .codeWith yL_owner cL_owner 4 (some .int) [(0, 9, 12, 13)] :: ((wsL_owner_r1 ++ (wsL_owner_r2 ++ wsL_owner_r3)) ++ wsX40 ++ wsX30 ++ wsX20 ++ wsX10 ++ wsX00 ++ (vx_atS RX4 161 "java/lang/IndexOutOfBoundsException" ["java/lang/RuntimeException", "java/lang/Exception"]).filter goodWord)
def wsL_ownerAnew_r1 : List Cond := [Cond.classLink RL 13 "java/lang/IndexOutOfBoundsException", Cond.methodLink RL 80 yX4_ownerAnew, Cond.instanceMethod yX4_ownerAnew, Cond.selects RX4 yX4_ownerAnew yX4_ownerAnew, Cond.initialized RX4, Cond.code yX4_ownerAnew cX4_ownerAnew 2 (some .int), Cond.methodLink RX4 101 yX4_thingNumbered, Cond.instanceMethod yX4_thingNumbered, Cond.selects RX4 yX4_thingNumbered yX4_thingNumbered, Cond.code yX4_thingNumbered cX4_thingNumbered 3 (some (.object "Restitutory$Thing")), Cond.classLink RX4 157 "java/lang/IndexOutOfBoundsException", Cond.initialized "java/lang/IndexOutOfBoundsException", Cond.fieldLink RX4 31 "Restitutory" "things" "[LRestitutory$Thing;", Cond.methodLink RX4 187 yX4_titleFromLast, Cond.instanceMethod yX4_titleFromLast, Cond.selects RX4 yX4_titleFromLast yX4_titleFromLast, Cond.code yX4_titleFromLast cX4_titleFromLast 4 (some (.object "Restitutory$Person")), Cond.fieldLink RX4 230 "Restitutory$Thing" "last" "LRestitutory$Station;", Cond.fieldLink RX4 213 "Restitutory$Station" "party" "LRestitutory$Person;", Cond.fieldLink RX4 233 "Restitutory$Person" "titleEndsWith" "LRestitutory$Person;", Cond.fieldLink RX4 210 "Restitutory$Station" "ahead" "LRestitutory$Station;", Cond.fieldLink RX4 138 "Restitutory$Station" "settled" "Z", Cond.methodLink RX4 172 yX4_takesAway, Cond.instanceMethod yX4_takesAway]
def wsL_ownerAnew_r2 : List Cond := [Cond.selects RX4 yX4_takesAway yX4_takesAway, Cond.code yX4_takesAway cX4_takesAway 3 (some .boolean), Cond.fieldLink RX4 130 "Restitutory$Station" "kind" "I", Cond.fieldLink RX4 135 "Restitutory$Station" "rebutted" "Z", Cond.fieldLink RX4 217 "Restitutory$Station" "land" "I", Cond.fieldLink RX4 220 "Restitutory$Station" "year" "I", Cond.methodLink RX4 141 yX4_isDarkFor, Cond.instanceMethod yX4_isDarkFor, Cond.selects RX4 yX4_isDarkFor yX4_isDarkFor, Cond.code yX4_isDarkFor cX4_isDarkFor 8 (some .boolean), Cond.fieldLink RX4 17 "Restitutory" "persecutions" "[LRestitutory$Persecution;", Cond.fieldLink RX4 203 "Restitutory$Person" "group" "I", Cond.methodLink RX4 206 yX0_strikes, Cond.instanceMethod yX0_strikes, Cond.selects RX0 yX0_strikes yX0_strikes, Cond.initialized RX0, Cond.code yX0_strikes cX0_strikes 4 (some .boolean), Cond.fieldLink RX0 7 "Restitutory$Persecution" "group" "I", Cond.fieldLink RX0 13 "Restitutory$Persecution" "land" "I", Cond.fieldLink RX0 16 "Restitutory$Persecution" "from" "I", Cond.fieldLink RX0 19 "Restitutory$Persecution" "to" "I", Cond.methodLink RX4 227 yX4_isKeptInGoodFaith, Cond.instanceMethod yX4_isKeptInGoodFaith, Cond.selects RX4 yX4_isKeptInGoodFaith yX4_isKeptInGoodFaith]
def wsL_ownerAnew_r3 : List Cond := [Cond.code yX4_isKeptInGoodFaith cX4_isKeptInGoodFaith 4 (some .boolean), Cond.fieldLink RX4 21 "Restitutory" "faithYears" "[I", Cond.fieldLink RX4 166 "Restitutory$Station" "next" "LRestitutory$Station;", Cond.fieldLink RX4 25 "Restitutory" "currentYear" "I", Cond.methodLink RX4 184 yX4_livingFor, Cond.static yX4_livingFor, Cond.code yX4_livingFor cX4_livingFor 2 (some (.object "Restitutory$Person")), Cond.fieldLink RX4 56 "Restitutory$Person" "dead" "Z", Cond.methodLink RX4 145 yX4_livingHeir, Cond.static yX4_livingHeir, Cond.code yX4_livingHeir cX4_livingHeir 7 (some (.object "Restitutory$Person")), Cond.fieldLink RX4 74 "Restitutory$Person" "heirs" "[LRestitutory$Person;", Cond.methodLink RX4 149 yX4_numberOf, Cond.static yX4_numberOf, Cond.code yX4_numberOf cX4_numberOf 1 (some .int), Cond.fieldLink RX4 202 "Restitutory$Person" "number" "I"]
def wsL_ownerAnew : List Cond := .codeWith yL_ownerAnew cL_ownerAnew 4 (some .int) [(0, 9, 12, 13)] :: ((wsL_ownerAnew_r1 ++ (wsL_ownerAnew_r2 ++ wsL_ownerAnew_r3)) ++ wsX40 ++ wsX30 ++ wsX20 ++ wsX10 ++ wsX00 ++ (vx_atS RX4 161 "java/lang/IndexOutOfBoundsException" ["java/lang/RuntimeException", "java/lang/Exception"]).filter goodWord)
def wsL_asks_r1 : List Cond := [Cond.classLink RL 13 "java/lang/IndexOutOfBoundsException", Cond.methodLink RL 83 yX4_asks, Cond.instanceMethod yX4_asks, Cond.selects RX4 yX4_asks yX4_asks, Cond.initialized RX4, Cond.code yX4_asks cX4_asks 8 (some .int), Cond.fieldLink RX4 31 "Restitutory" "things" "[LRestitutory$Thing;", Cond.methodLink RX4 52 yX4_personNumbered, Cond.instanceMethod yX4_personNumbered, Cond.selects RX4 yX4_personNumbered yX4_personNumbered, Cond.code yX4_personNumbered cX4_personNumbered 3 (some (.object "Restitutory$Person")), Cond.classLink RX4 157 "java/lang/IndexOutOfBoundsException", Cond.initialized "java/lang/IndexOutOfBoundsException", Cond.fieldLink RX4 11 "Restitutory" "people" "[LRestitutory$Person;", Cond.methodLink RX4 176 yX3_lastParty, Cond.instanceMethod yX3_lastParty, Cond.selects RX3 yX3_lastParty yX3_lastParty, Cond.initialized RX3, Cond.code yX3_lastParty cX3_lastParty 1 (some (.object "Restitutory$Person")), Cond.fieldLink RX3 35 "Restitutory$Thing" "last" "LRestitutory$Station;", Cond.fieldLink RX3 39 "Restitutory$Station" "party" "LRestitutory$Person;", Cond.methodLink RX4 180 yX4_titleFromFirst, Cond.instanceMethod yX4_titleFromFirst, Cond.selects RX4 yX4_titleFromFirst yX4_titleFromFirst]
def wsL_asks_r2 : List Cond := [Cond.code yX4_titleFromFirst cX4_titleFromFirst 4 (some (.object "Restitutory$Person")), Cond.fieldLink RX4 162 "Restitutory$Thing" "first" "LRestitutory$Station;", Cond.fieldLink RX4 213 "Restitutory$Station" "party" "LRestitutory$Person;", Cond.fieldLink RX4 166 "Restitutory$Station" "next" "LRestitutory$Station;", Cond.methodLink RX4 223 yX4_bringsTitle, Cond.instanceMethod yX4_bringsTitle, Cond.selects RX4 yX4_bringsTitle yX4_bringsTitle, Cond.code yX4_bringsTitle cX4_bringsTitle 4 (some .boolean), Cond.fieldLink RX4 138 "Restitutory$Station" "settled" "Z", Cond.fieldLink RX4 210 "Restitutory$Station" "ahead" "LRestitutory$Station;", Cond.methodLink RX4 172 yX4_takesAway, Cond.instanceMethod yX4_takesAway, Cond.selects RX4 yX4_takesAway yX4_takesAway, Cond.code yX4_takesAway cX4_takesAway 3 (some .boolean), Cond.fieldLink RX4 130 "Restitutory$Station" "kind" "I", Cond.fieldLink RX4 135 "Restitutory$Station" "rebutted" "Z", Cond.fieldLink RX4 217 "Restitutory$Station" "land" "I", Cond.fieldLink RX4 220 "Restitutory$Station" "year" "I", Cond.methodLink RX4 141 yX4_isDarkFor, Cond.instanceMethod yX4_isDarkFor, Cond.selects RX4 yX4_isDarkFor yX4_isDarkFor, Cond.code yX4_isDarkFor cX4_isDarkFor 8 (some .boolean), Cond.fieldLink RX4 17 "Restitutory" "persecutions" "[LRestitutory$Persecution;", Cond.fieldLink RX4 203 "Restitutory$Person" "group" "I"]
def wsL_asks_r3 : List Cond := [Cond.methodLink RX4 206 yX0_strikes, Cond.instanceMethod yX0_strikes, Cond.selects RX0 yX0_strikes yX0_strikes, Cond.initialized RX0, Cond.code yX0_strikes cX0_strikes 4 (some .boolean), Cond.fieldLink RX0 7 "Restitutory$Persecution" "group" "I", Cond.fieldLink RX0 13 "Restitutory$Persecution" "land" "I", Cond.fieldLink RX0 16 "Restitutory$Persecution" "from" "I", Cond.fieldLink RX0 19 "Restitutory$Persecution" "to" "I", Cond.methodLink RX4 227 yX4_isKeptInGoodFaith, Cond.instanceMethod yX4_isKeptInGoodFaith, Cond.selects RX4 yX4_isKeptInGoodFaith yX4_isKeptInGoodFaith, Cond.code yX4_isKeptInGoodFaith cX4_isKeptInGoodFaith 4 (some .boolean), Cond.fieldLink RX4 21 "Restitutory" "faithYears" "[I", Cond.fieldLink RX4 25 "Restitutory" "currentYear" "I", Cond.methodLink RX4 184 yX4_livingFor, Cond.static yX4_livingFor, Cond.code yX4_livingFor cX4_livingFor 2 (some (.object "Restitutory$Person")), Cond.fieldLink RX4 56 "Restitutory$Person" "dead" "Z", Cond.methodLink RX4 145 yX4_livingHeir, Cond.static yX4_livingHeir, Cond.code yX4_livingHeir cX4_livingHeir 7 (some (.object "Restitutory$Person")), Cond.fieldLink RX4 74 "Restitutory$Person" "heirs" "[LRestitutory$Person;"]
def wsL_asks : List Cond := .codeWith yL_asks cL_asks 4 (some .int) [(0, 9, 12, 13)] :: ((wsL_asks_r1 ++ (wsL_asks_r2 ++ wsL_asks_r3)) ++ wsX40 ++ wsX30 ++ wsX20 ++ wsX10 ++ wsX00 ++ (vx_atS RX4 161 "java/lang/IndexOutOfBoundsException" ["java/lang/RuntimeException", "java/lang/Exception"]).filter goodWord)
def wsL_law0_r1 : List Cond := [Cond.classLink RL 8 RX4, Cond.instantiable RX4 8, Cond.initialized RX4, Cond.classLink RL 87 RX5, Cond.instantiable RX5 21, Cond.initialized RX5, Cond.arrayClass .long, Cond.methodLink RL 86 yX4_init, Cond.instanceMethod yX4_init, Cond.code yX4_init cX4_init 1 none, Cond.methodLink RX4 1 objectInit, Cond.instanceMethod objectInit, Cond.code objectInit ⟨#[0xb1]⟩ 1 none, Cond.classLink RX4 9 RX1, Cond.fieldLink RX4 11 "Restitutory" "people" "[LRestitutory$Person;", Cond.classLink RX4 15 RX0, Cond.fieldLink RX4 17 "Restitutory" "persecutions" "[LRestitutory$Persecution;", Cond.arrayClass .int, Cond.fieldLink RX4 21 "Restitutory" "faithYears" "[I", Cond.fieldLink RX4 25 "Restitutory" "currentYear" "I", Cond.classLink RX4 29 RX3, Cond.fieldLink RX4 31 "Restitutory" "things" "[LRestitutory$Thing;", Cond.methodLink RL 89 yX5_init, Cond.instanceMethod yX5_init]
def wsL_law0_r2 : List Cond := [Cond.code yX5_init cX5_init 1 none, Cond.methodLink RX5 1 objectInit, Cond.fieldLink RX5 7 "RestitutoryModel" "now" "I", Cond.fieldLink RX5 13 "RestitutoryModel" "groups" "[I", Cond.arrayClass .boolean, Cond.fieldLink RX5 17 "RestitutoryModel" "dead" "[Z", Cond.fieldLink RX5 21 "RestitutoryModel" "heirs" "[I", Cond.fieldLink RX5 24 "RestitutoryModel" "heirMany" "[I", Cond.fieldLink RX5 27 "RestitutoryModel" "persecutions" "[I", Cond.fieldLink RX5 30 "RestitutoryModel" "faiths" "[I", Cond.fieldLink RX5 33 "RestitutoryModel" "marks" "[I", Cond.fieldLink RX5 36 "RestitutoryModel" "sizes" "[I", Cond.fieldLink RX5 39 "RestitutoryModel" "stationMany" "[I", Cond.fieldLink RX5 42 "RestitutoryModel" "parties" "[I", Cond.fieldLink RX5 45 "RestitutoryModel" "kinds" "[I", Cond.fieldLink RX5 48 "RestitutoryModel" "lands" "[I", Cond.fieldLink RX5 51 "RestitutoryModel" "years" "[I", Cond.fieldLink RX5 54 "RestitutoryModel" "rebutted" "[Z", Cond.fieldLink RX5 57 "RestitutoryModel" "settled" "[Z", Cond.fieldLink RX5 60 "RestitutoryModel" "order" "[I", Cond.methodLink RL 90 yL_person, Cond.static yL_person, Cond.initialized RL, Cond.codeWith yL_person cL_person 4 (some .int) [(0, 9, 12, 13), (0, 9, 15, 15)]]
def wsL_law0_r3 : List Cond := [Cond.classLink RL 13 "java/lang/IndexOutOfBoundsException", Cond.classLink RL 15 "java/lang/IllegalStateException", Cond.methodLink RL 7 yX4_person, Cond.instanceMethod yX4_person, Cond.selects RX4 yX4_person yX4_person, Cond.code yX4_person cX4_person 3 (some .int), Cond.classLink RX4 42 "java/lang/IllegalStateException", Cond.initialized "java/lang/IllegalStateException", Cond.fieldLink RX4 39 "Restitutory" "peopleCount" "I", Cond.instantiable RX1 6, Cond.initialized RX1, Cond.methodLink RX4 35 yX4_requireGroup, Cond.static yX4_requireGroup, Cond.code yX4_requireGroup cX4_requireGroup 1 none, Cond.classLink RX4 157 "java/lang/IndexOutOfBoundsException", Cond.initialized "java/lang/IndexOutOfBoundsException", Cond.methodLink RX4 49 yX1_init, Cond.instanceMethod yX1_init, Cond.code yX1_init cX1_init 3 none, Cond.methodLink RX1 3 objectInit, Cond.classLink RX1 9 RX1, Cond.fieldLink RX1 11 "Restitutory$Person" "heirs" "[LRestitutory$Person;", Cond.fieldLink RX1 15 "Restitutory$Person" "number" "I", Cond.fieldLink RX1 19 "Restitutory$Person" "group" "I"]
def wsL_law0_r4 : List Cond := [Cond.methodLink RL 95 yX5_person, Cond.instanceMethod yX5_person, Cond.selects RX5 yX5_person yX5_person, Cond.code yX5_person cX5_person 2 (some .int), Cond.fieldLink RX5 66 "RestitutoryModel" "people" "I", Cond.methodLink RX5 69 yX5_in, Cond.static yX5_in, Cond.code yX5_in cX5_in 3 (some .boolean), Cond.methodLink RX5 80 yX5_goes, Cond.instanceMethod yX5_goes, Cond.selects RX5 yX5_goes yX5_goes, Cond.code yX5_goes cX5_goes 4 (some .boolean), Cond.fieldLink RX5 63 "RestitutoryModel" "last" "I", Cond.methodLink RL 96 yX5_thrown, Cond.instanceMethod yX5_thrown, Cond.selects RX5 yX5_thrown yX5_thrown, Cond.code yX5_thrown cX5_thrown 1 (some .int), Cond.methodLink RL 100 yL_die, Cond.static yL_die, Cond.codeWith yL_die cL_die 3 (some .int) [(0, 5, 8, 13), (0, 5, 11, 15)], Cond.methodLink RL 17 yX4_die, Cond.instanceMethod yX4_die, Cond.selects RX4 yX4_die yX4_die, Cond.code yX4_die cX4_die 3 none]
def wsL_law0_r5 : List Cond := [Cond.fieldLink RX4 56 "Restitutory$Person" "dead" "Z", Cond.methodLink RX4 52 yX4_personNumbered, Cond.instanceMethod yX4_personNumbered, Cond.selects RX4 yX4_personNumbered yX4_personNumbered, Cond.code yX4_personNumbered cX4_personNumbered 3 (some (.object "Restitutory$Person")), Cond.methodLink RL 103 yX5_die, Cond.instanceMethod yX5_die, Cond.selects RX5 yX5_die yX5_die, Cond.code yX5_die cX5_die 3 none, Cond.methodLink RX5 84 yX5_isPerson, Cond.instanceMethod yX5_isPerson, Cond.selects RX5 yX5_isPerson yX5_isPerson, Cond.code yX5_isPerson cX5_isPerson 2 (some .boolean), Cond.methodLink RL 104 yL_heir, Cond.static yL_heir, Cond.codeWith yL_heir cL_heir 5 (some .int) [(0, 10, 13, 13), (0, 10, 17, 25), (0, 10, 21, 15)], Cond.classLink RL 25 "java/lang/IllegalArgumentException", Cond.methodLink RL 21 yX4_heir, Cond.instanceMethod yX4_heir, Cond.selects RX4 yX4_heir yX4_heir, Cond.code yX4_heir cX4_heir 5 (some .int), Cond.classLink RX4 62 "java/lang/IllegalArgumentException", Cond.initialized "java/lang/IllegalArgumentException", Cond.fieldLink RX4 71 "Restitutory$Person" "heirCount" "I"]
def wsL_law0_r6 : List Cond := [Cond.fieldLink RX4 74 "Restitutory$Person" "heirs" "[LRestitutory$Person;", Cond.methodLink RX4 67 yX1_hasToldHeir, Cond.instanceMethod yX1_hasToldHeir, Cond.selects RX1 yX1_hasToldHeir yX1_hasToldHeir, Cond.code yX1_hasToldHeir cX1_hasToldHeir 6 (some .boolean), Cond.methodLink RL 107 yX5_heir, Cond.instanceMethod yX5_heir, Cond.selects RX5 yX5_heir yX5_heir, Cond.code yX5_heir cX5_heir 4 (some .int), Cond.methodLink RX5 87 yX5_isHeir, Cond.instanceMethod yX5_isHeir, Cond.selects RX5 yX5_isHeir yX5_isHeir, Cond.code yX5_isHeir cX5_isHeir 5 (some .boolean), Cond.methodLink RL 108 yL_persecution, Cond.static yL_persecution, Cond.codeWith yL_persecution cL_persecution 7 (some .int) [(0, 14, 17, 13), (0, 14, 21, 25), (0, 14, 25, 15)], Cond.methodLink RL 27 yX4_persecution, Cond.instanceMethod yX4_persecution, Cond.selects RX4 yX4_persecution yX4_persecution, Cond.code yX4_persecution cX4_persecution 5 (some .int), Cond.fieldLink RX4 86 "Restitutory" "persecutionCount" "I", Cond.instantiable RX0 4, Cond.initialized RX0, Cond.methodLink RX4 79 yX4_requireLand]
def wsL_law0_r7 : List Cond := [Cond.static yX4_requireLand, Cond.code yX4_requireLand cX4_requireLand 1 none, Cond.methodLink RX4 82 yX4_requireRange, Cond.static yX4_requireRange, Cond.code yX4_requireRange cX4_requireRange 3 none, Cond.methodLink RX4 91 yX0_init, Cond.instanceMethod yX0_init, Cond.code yX0_init cX0_init 5 none, Cond.methodLink RX0 1 objectInit, Cond.fieldLink RX0 7 "Restitutory$Persecution" "group" "I", Cond.fieldLink RX0 13 "Restitutory$Persecution" "land" "I", Cond.fieldLink RX0 16 "Restitutory$Persecution" "from" "I", Cond.fieldLink RX0 19 "Restitutory$Persecution" "to" "I", Cond.methodLink RL 111 yX5_persecution, Cond.instanceMethod yX5_persecution, Cond.selects RX5 yX5_persecution yX5_persecution, Cond.code yX5_persecution cX5_persecution 7 (some .int), Cond.fieldLink RX5 94 "RestitutoryModel" "manyPersecutions" "I", Cond.methodLink RX5 91 yX5_isLand, Cond.static yX5_isLand, Cond.code yX5_isLand cX5_isLand 1 (some .boolean), Cond.methodLink RL 112 yL_faith, Cond.static yL_faith, Cond.codeWith yL_faith cL_faith 5 (some .int) [(0, 10, 13, 13), (0, 10, 17, 25)]]
def wsL_law0_r8 : List Cond := [Cond.methodLink RL 31 yX4_faith, Cond.instanceMethod yX4_faith, Cond.selects RX4 yX4_faith yX4_faith, Cond.code yX4_faith cX4_faith 4 (some .int), Cond.methodLink RL 114 yX5_faith, Cond.instanceMethod yX5_faith, Cond.selects RX5 yX5_faith yX5_faith, Cond.code yX5_faith cX5_faith 4 (some .int), Cond.methodLink RL 115 yL_now, Cond.static yL_now, Cond.codeWith yL_now cL_now 4 (some .int) [(0, 9, 12, 25)], Cond.methodLink RL 34 yX4_now, Cond.instanceMethod yX4_now, Cond.selects RX4 yX4_now yX4_now, Cond.code yX4_now cX4_now 3 (some .int), Cond.methodLink RL 117 yX5_now, Cond.instanceMethod yX5_now, Cond.selects RX5 yX5_now yX5_now, Cond.code yX5_now cX5_now 3 (some .int), Cond.methodLink RL 118 yL_thing, Cond.static yL_thing, Cond.codeWith yL_thing cL_thing 5 (some .int) [(0, 10, 13, 25), (0, 10, 17, 15)], Cond.methodLink RL 37 yX4_thing, Cond.instanceMethod yX4_thing]
def wsL_law0_r9 : List Cond := [Cond.selects RX4 yX4_thing yX4_thing, Cond.code yX4_thing cX4_thing 4 (some .int), Cond.constant RX4 94 (65535), Cond.fieldLink RX4 95 "Restitutory" "thingCount" "I", Cond.instantiable RX3 6, Cond.initialized RX3, Cond.methodLink RX4 100 yX3_init, Cond.instanceMethod yX3_init, Cond.code yX3_init cX3_init 3 none, Cond.methodLink RX3 3 objectInit, Cond.classLink RX3 9 RX2, Cond.fieldLink RX3 11 "Restitutory$Thing" "stations" "[LRestitutory$Station;", Cond.fieldLink RX3 17 "Restitutory$Thing" "marks" "I", Cond.fieldLink RX3 21 "Restitutory$Thing" "size" "I", Cond.methodLink RL 120 yX5_thing, Cond.instanceMethod yX5_thing, Cond.selects RX5 yX5_thing yX5_thing, Cond.code yX5_thing cX5_thing 3 (some .int), Cond.constant RX5 97 (65535), Cond.fieldLink RX5 73 "RestitutoryModel" "things" "I", Cond.methodLink RL 121 yL_mark, Cond.static yL_mark, Cond.codeWith yL_mark cL_mark 6 (some .int) [(0, 19, 22, 13), (0, 19, 26, 25)], Cond.methodLink RL 40 yX4_mark]
def wsL_law0_r10 : List Cond := [Cond.instanceMethod yX4_mark, Cond.selects RX4 yX4_mark yX4_mark, Cond.code yX4_mark cX4_mark 7 (some .boolean), Cond.fieldLink RX4 105 "Restitutory$Thing" "marks" "I", Cond.methodLink RX4 101 yX4_thingNumbered, Cond.instanceMethod yX4_thingNumbered, Cond.selects RX4 yX4_thingNumbered yX4_thingNumbered, Cond.code yX4_thingNumbered cX4_thingNumbered 3 (some (.object "Restitutory$Thing")), Cond.methodLink RL 124 yX5_mark, Cond.instanceMethod yX5_mark, Cond.selects RX5 yX5_mark yX5_mark, Cond.code yX5_mark cX5_mark 5 (some .boolean), Cond.methodLink RX5 76 yX5_isThing, Cond.instanceMethod yX5_isThing, Cond.selects RX5 yX5_isThing yX5_isThing, Cond.code yX5_isThing cX5_isThing 2 (some .boolean), Cond.methodLink RL 125 yL_station, Cond.static yL_station, Cond.codeWith yL_station cL_station 8 (some .int) [(0, 16, 19, 13), (0, 16, 23, 25), (0, 16, 27, 15)], Cond.methodLink RL 44 yX4_station, Cond.instanceMethod yX4_station, Cond.selects RX4 yX4_station yX4_station, Cond.code yX4_station cX4_station 10 (some .int), Cond.fieldLink RX4 108 "Restitutory$Thing" "stationCount" "I"]
def wsL_law0_r11 : List Cond := [Cond.classLink RX4 113 RX2, Cond.instantiable RX2 9, Cond.initialized RX2, Cond.fieldLink RX4 118 "Restitutory$Thing" "stations" "[LRestitutory$Station;", Cond.methodLink RX4 115 yX2_init, Cond.instanceMethod yX2_init, Cond.code yX2_init cX2_init 6 none, Cond.methodLink RX2 1 objectInit, Cond.fieldLink RX2 7 "Restitutory$Station" "number" "I", Cond.fieldLink RX2 13 "Restitutory$Station" "party" "LRestitutory$Person;", Cond.fieldLink RX2 17 "Restitutory$Station" "kind" "I", Cond.fieldLink RX2 20 "Restitutory$Station" "land" "I", Cond.fieldLink RX2 23 "Restitutory$Station" "year" "I", Cond.methodLink RX4 122 yX3_putInOrder, Cond.instanceMethod yX3_putInOrder, Cond.selects RX3 yX3_putInOrder yX3_putInOrder, Cond.code yX3_putInOrder cX3_putInOrder 4 none, Cond.fieldLink RX3 35 "Restitutory$Thing" "last" "LRestitutory$Station;", Cond.fieldLink RX3 43 "Restitutory$Station" "year" "I", Cond.fieldLink RX3 46 "Restitutory$Station" "ahead" "LRestitutory$Station;", Cond.fieldLink RX3 49 "Restitutory$Thing" "first" "LRestitutory$Station;", Cond.fieldLink RX3 52 "Restitutory$Station" "next" "LRestitutory$Station;", Cond.methodLink RL 128 yX5_station, Cond.instanceMethod yX5_station]
def wsL_law0_r12 : List Cond := [Cond.selects RX5 yX5_station yX5_station, Cond.code yX5_station cX5_station 8 (some .int), Cond.methodLink RL 129 yL_rebut, Cond.static yL_rebut, Cond.codeWith yL_rebut cL_rebut 6 (some .int) [(0, 19, 22, 13), (0, 19, 26, 25)], Cond.methodLink RL 48 yX4_rebut, Cond.instanceMethod yX4_rebut, Cond.selects RX4 yX4_rebut yX4_rebut, Cond.code yX4_rebut cX4_rebut 6 (some .boolean), Cond.fieldLink RX4 130 "Restitutory$Station" "kind" "I", Cond.fieldLink RX4 135 "Restitutory$Station" "rebutted" "Z", Cond.methodLink RX4 126 yX4_stationNumbered, Cond.instanceMethod yX4_stationNumbered, Cond.selects RX4 yX4_stationNumbered yX4_stationNumbered, Cond.code yX4_stationNumbered cX4_stationNumbered 5 (some (.object "Restitutory$Station")), Cond.methodLink RL 131 yX5_rebut, Cond.instanceMethod yX5_rebut, Cond.selects RX5 yX5_rebut yX5_rebut, Cond.code yX5_rebut cX5_rebut 7 (some .boolean), Cond.methodLink RX5 98 yX5_isStation, Cond.instanceMethod yX5_isStation, Cond.selects RX5 yX5_isStation yX5_isStation, Cond.code yX5_isStation cX5_isStation 3 (some .boolean), Cond.methodLink RL 132 yL_settle]
def wsL_law0_r13 : List Cond := [Cond.static yL_settle, Cond.codeWith yL_settle cL_settle 6 (some .int) [(0, 19, 22, 13)], Cond.methodLink RL 51 yX4_settle, Cond.instanceMethod yX4_settle, Cond.selects RX4 yX4_settle yX4_settle, Cond.code yX4_settle cX4_settle 6 (some .boolean), Cond.fieldLink RX4 138 "Restitutory$Station" "settled" "Z", Cond.methodLink RL 134 yX5_settle, Cond.instanceMethod yX5_settle, Cond.selects RX5 yX5_settle yX5_settle, Cond.code yX5_settle cX5_settle 5 (some .boolean), Cond.methodLink RL 135 yL_isPersecuted, Cond.static yL_isPersecuted, Cond.codeWith yL_isPersecuted cL_isPersecuted 6 (some .int) [(0, 19, 22, 13), (0, 19, 26, 25)], Cond.methodLink RL 54 yX4_isPersecuted, Cond.instanceMethod yX4_isPersecuted, Cond.selects RX4 yX4_isPersecuted yX4_isPersecuted, Cond.code yX4_isPersecuted cX4_isPersecuted 5 (some .boolean), Cond.methodLink RX4 141 yX4_isDarkFor, Cond.instanceMethod yX4_isDarkFor, Cond.selects RX4 yX4_isDarkFor yX4_isDarkFor, Cond.code yX4_isDarkFor cX4_isDarkFor 8 (some .boolean), Cond.fieldLink RX4 203 "Restitutory$Person" "group" "I", Cond.methodLink RX4 206 yX0_strikes]
def wsL_law0_r14 : List Cond := [Cond.instanceMethod yX0_strikes, Cond.selects RX0 yX0_strikes yX0_strikes, Cond.code yX0_strikes cX0_strikes 4 (some .boolean), Cond.methodLink RL 138 yX5_isPersecuted, Cond.instanceMethod yX5_isPersecuted, Cond.selects RX5 yX5_isPersecuted yX5_isPersecuted, Cond.code yX5_isPersecuted cX5_isPersecuted 4 (some .boolean), Cond.methodLink RX5 101 yX5_persecutes, Cond.instanceMethod yX5_persecutes, Cond.selects RX5 yX5_persecutes yX5_persecutes, Cond.code yX5_persecutes cX5_persecutes 6 (some .boolean), Cond.methodLink RL 139 yL_heirOf, Cond.static yL_heirOf, Cond.codeWith yL_heirOf cL_heirOf 4 (some .int) [(0, 9, 12, 13)], Cond.methodLink RL 58 yX4_heirOf, Cond.instanceMethod yX4_heirOf, Cond.selects RX4 yX4_heirOf yX4_heirOf, Cond.code yX4_heirOf cX4_heirOf 2 (some .int), Cond.methodLink RX4 145 yX4_livingHeir, Cond.static yX4_livingHeir, Cond.code yX4_livingHeir cX4_livingHeir 7 (some (.object "Restitutory$Person")), Cond.methodLink RX4 184 yX4_livingFor, Cond.static yX4_livingFor, Cond.code yX4_livingFor cX4_livingFor 2 (some (.object "Restitutory$Person"))]
def wsL_law0_r15 : List Cond := [Cond.methodLink RX4 149 yX4_numberOf, Cond.static yX4_numberOf, Cond.code yX4_numberOf cX4_numberOf 1 (some .int), Cond.fieldLink RX4 202 "Restitutory$Person" "number" "I", Cond.methodLink RL 141 yX5_heirOf, Cond.instanceMethod yX5_heirOf, Cond.selects RX5 yX5_heirOf yX5_heirOf, Cond.code yX5_heirOf cX5_heirOf 2 (some .int), Cond.methodLink RX5 111 yX5_findsHeir, Cond.instanceMethod yX5_findsHeir, Cond.selects RX5 yX5_findsHeir yX5_findsHeir, Cond.code yX5_findsHeir cX5_findsHeir 5 (some .int), Cond.methodLink RX5 108 yX5_nearOf, Cond.instanceMethod yX5_nearOf, Cond.selects RX5 yX5_nearOf yX5_nearOf, Cond.code yX5_nearOf cX5_nearOf 5 (some .int), Cond.methodLink RX5 104 yX5_livingOf, Cond.instanceMethod yX5_livingOf, Cond.selects RX5 yX5_livingOf yX5_livingOf, Cond.code yX5_livingOf cX5_livingOf 3 (some .int), Cond.methodLink RL 142 yL_likeness, Cond.static yL_likeness, Cond.codeWith yL_likeness cL_likeness 5 (some .int) [(0, 10, 13, 13)], Cond.methodLink RL 61 yX4_likeness]
def wsL_law0_r16 : List Cond := [Cond.instanceMethod yX4_likeness, Cond.selects RX4 yX4_likeness yX4_likeness, Cond.code yX4_likeness cX4_likeness 3 (some .int), Cond.methodLink RX4 153 yX3_likenessTo, Cond.instanceMethod yX3_likenessTo, Cond.selects RX3 yX3_likenessTo yX3_likenessTo, Cond.code yX3_likenessTo cX3_likenessTo 4 (some .int), Cond.methodLink RX3 30 Lib.Math.abs.name, Cond.static Lib.Math.abs.name, Cond.initialized "java/lang/Math", Cond.code Lib.Math.abs.name Lib.Math.abs.code 1 (some .int), Cond.methodLink RX3 24 yJ6_bitCount_0f7a4, Cond.static yJ6_bitCount_0f7a4, Cond.initialized RJ6, Cond.code yJ6_bitCount_0f7a4 cJ6_bitCount_0f7a4 1 (some .int), Cond.constant RJ6 265 (1431655765), Cond.constant RJ6 266 (858993459), Cond.constant RJ6 267 (252645135), Cond.methodLink RL 144 yX5_likeness, Cond.instanceMethod yX5_likeness, Cond.selects RX5 yX5_likeness yX5_likeness, Cond.code yX5_likeness cX5_likeness 3 (some .int), Cond.methodLink RX5 117 yX5_likes, Cond.instanceMethod yX5_likes]
def wsL_law0_r17 : List Cond := [Cond.selects RX5 yX5_likes yX5_likes, Cond.code yX5_likes cX5_likes 4 (some .int), Cond.methodLink RX5 114 yX5_bits, Cond.static yX5_bits, Cond.code yX5_bits cX5_bits 3 (some .int), Cond.methodLink RL 145 yL_likest, Cond.static yL_likest, Cond.codeWith yL_likest cL_likest 4 (some .int) [(0, 9, 12, 13)], Cond.methodLink RL 64 yX4_likest, Cond.instanceMethod yX4_likest, Cond.selects RX4 yX4_likest yX4_likest, Cond.code yX4_likest cX4_likest 8 (some .int), Cond.methodLink RL 147 yX5_likest, Cond.instanceMethod yX5_likest, Cond.selects RX5 yX5_likest yX5_likest, Cond.code yX5_likest cX5_likest 4 (some .int), Cond.methodLink RL 148 yL_stationAt, Cond.static yL_stationAt, Cond.codeWith yL_stationAt cL_stationAt 5 (some .int) [(0, 10, 13, 13)], Cond.methodLink RL 67 yX4_stationAt, Cond.instanceMethod yX4_stationAt, Cond.selects RX4 yX4_stationAt yX4_stationAt, Cond.code yX4_stationAt cX4_stationAt 6 (some .int), Cond.fieldLink RX4 162 "Restitutory$Thing" "first" "LRestitutory$Station;"]
def wsL_law0_r18 : List Cond := [Cond.fieldLink RX4 166 "Restitutory$Station" "next" "LRestitutory$Station;", Cond.fieldLink RX4 169 "Restitutory$Station" "number" "I", Cond.methodLink RL 150 yX5_stationAt, Cond.instanceMethod yX5_stationAt, Cond.selects RX5 yX5_stationAt yX5_stationAt, Cond.code yX5_stationAt cX5_stationAt 3 (some .int), Cond.methodLink RX5 121 yX5_lays, Cond.instanceMethod yX5_lays, Cond.selects RX5 yX5_lays yX5_lays, Cond.code yX5_lays cX5_lays 5 (some .int), Cond.methodLink RL 151 yL_isLoss, Cond.static yL_isLoss, Cond.codeWith yL_isLoss cL_isLoss 5 (some .int) [(0, 17, 20, 13)], Cond.methodLink RL 70 yX4_isLoss, Cond.instanceMethod yX4_isLoss, Cond.selects RX4 yX4_isLoss yX4_isLoss, Cond.code yX4_isLoss cX4_isLoss 3 (some .boolean), Cond.methodLink RX4 172 yX4_takesAway, Cond.instanceMethod yX4_takesAway, Cond.selects RX4 yX4_takesAway yX4_takesAway, Cond.code yX4_takesAway cX4_takesAway 3 (some .boolean), Cond.fieldLink RX4 210 "Restitutory$Station" "ahead" "LRestitutory$Station;", Cond.fieldLink RX4 213 "Restitutory$Station" "party" "LRestitutory$Person;", Cond.fieldLink RX4 217 "Restitutory$Station" "land" "I"]
def wsL_law0_r19 : List Cond := [Cond.fieldLink RX4 220 "Restitutory$Station" "year" "I", Cond.methodLink RL 153 yX5_isLoss, Cond.instanceMethod yX5_isLoss, Cond.selects RX5 yX5_isLoss yX5_isLoss, Cond.code yX5_isLoss cX5_isLoss 6 (some .boolean), Cond.methodLink RX5 124 yX5_loses, Cond.instanceMethod yX5_loses, Cond.selects RX5 yX5_loses yX5_loses, Cond.code yX5_loses cX5_loses 5 (some .boolean), Cond.methodLink RL 154 yL_holder, Cond.static yL_holder, Cond.codeWith yL_holder cL_holder 4 (some .int) [(0, 9, 12, 13)], Cond.methodLink RL 74 yX4_holder, Cond.instanceMethod yX4_holder, Cond.selects RX4 yX4_holder yX4_holder, Cond.code yX4_holder cX4_holder 2 (some .int), Cond.methodLink RX4 176 yX3_lastParty, Cond.instanceMethod yX3_lastParty, Cond.selects RX3 yX3_lastParty yX3_lastParty, Cond.code yX3_lastParty cX3_lastParty 1 (some (.object "Restitutory$Person")), Cond.fieldLink RX3 39 "Restitutory$Station" "party" "LRestitutory$Person;", Cond.methodLink RL 156 yX5_holder, Cond.instanceMethod yX5_holder, Cond.selects RX5 yX5_holder yX5_holder]
def wsL_law0_r20 : List Cond := [Cond.code yX5_holder cX5_holder 2 (some .int), Cond.methodLink RX5 127 yX5_holderOf, Cond.instanceMethod yX5_holderOf, Cond.selects RX5 yX5_holderOf yX5_holderOf, Cond.code yX5_holderOf cX5_holderOf 3 (some .int), Cond.methodLink RL 157 yL_owner, Cond.static yL_owner, Cond.codeWith yL_owner cL_owner 4 (some .int) [(0, 9, 12, 13)], Cond.methodLink RL 77 yX4_owner, Cond.instanceMethod yX4_owner, Cond.selects RX4 yX4_owner yX4_owner, Cond.code yX4_owner cX4_owner 2 (some .int), Cond.methodLink RX4 180 yX4_titleFromFirst, Cond.instanceMethod yX4_titleFromFirst, Cond.selects RX4 yX4_titleFromFirst yX4_titleFromFirst, Cond.code yX4_titleFromFirst cX4_titleFromFirst 4 (some (.object "Restitutory$Person")), Cond.methodLink RX4 223 yX4_bringsTitle, Cond.instanceMethod yX4_bringsTitle, Cond.selects RX4 yX4_bringsTitle yX4_bringsTitle, Cond.code yX4_bringsTitle cX4_bringsTitle 4 (some .boolean), Cond.methodLink RX4 227 yX4_isKeptInGoodFaith, Cond.instanceMethod yX4_isKeptInGoodFaith, Cond.selects RX4 yX4_isKeptInGoodFaith yX4_isKeptInGoodFaith, Cond.code yX4_isKeptInGoodFaith cX4_isKeptInGoodFaith 4 (some .boolean)]
def wsL_law0_r21 : List Cond := [Cond.methodLink RL 159 yX5_owner, Cond.instanceMethod yX5_owner, Cond.selects RX5 yX5_owner yX5_owner, Cond.code yX5_owner cX5_owner 2 (some .int), Cond.methodLink RX5 130 yX5_ownerOf, Cond.instanceMethod yX5_ownerOf, Cond.selects RX5 yX5_ownerOf yX5_ownerOf, Cond.code yX5_ownerOf cX5_ownerOf 9 (some .int), Cond.methodLink RL 160 yL_ownerAnew, Cond.static yL_ownerAnew, Cond.codeWith yL_ownerAnew cL_ownerAnew 4 (some .int) [(0, 9, 12, 13)], Cond.methodLink RL 80 yX4_ownerAnew, Cond.instanceMethod yX4_ownerAnew, Cond.selects RX4 yX4_ownerAnew yX4_ownerAnew, Cond.code yX4_ownerAnew cX4_ownerAnew 2 (some .int), Cond.methodLink RX4 187 yX4_titleFromLast, Cond.instanceMethod yX4_titleFromLast, Cond.selects RX4 yX4_titleFromLast yX4_titleFromLast, Cond.code yX4_titleFromLast cX4_titleFromLast 4 (some (.object "Restitutory$Person")), Cond.fieldLink RX4 230 "Restitutory$Thing" "last" "LRestitutory$Station;", Cond.fieldLink RX4 233 "Restitutory$Person" "titleEndsWith" "LRestitutory$Person;", Cond.methodLink RL 162 yX5_ownerAnew, Cond.instanceMethod yX5_ownerAnew, Cond.selects RX5 yX5_ownerAnew yX5_ownerAnew]
def wsL_law0_r22 : List Cond := [Cond.code yX5_ownerAnew cX5_ownerAnew 2 (some .int), Cond.methodLink RX5 133 yX5_owner, Cond.methodLink RL 163 yL_asks, Cond.static yL_asks, Cond.codeWith yL_asks cL_asks 4 (some .int) [(0, 9, 12, 13)], Cond.methodLink RL 83 yX4_asks, Cond.instanceMethod yX4_asks, Cond.selects RX4 yX4_asks yX4_asks, Cond.code yX4_asks cX4_asks 8 (some .int), Cond.methodLink RL 165 yX5_asks, Cond.instanceMethod yX5_asks, Cond.selects RX5 yX5_asks yX5_asks, Cond.code yX5_asks cX5_asks 4 (some .int)]
def wsL_law0 : List Cond := (wsL_law0_r1 ++ (wsL_law0_r2 ++ (wsL_law0_r3 ++ (wsL_law0_r4 ++ (wsL_law0_r5 ++ (wsL_law0_r6 ++ (wsL_law0_r7 ++ (wsL_law0_r8 ++ (wsL_law0_r9 ++ (wsL_law0_r10 ++ (wsL_law0_r11 ++ (wsL_law0_r12 ++ (wsL_law0_r13 ++ (wsL_law0_r14 ++ (wsL_law0_r15 ++ (wsL_law0_r16 ++ (wsL_law0_r17 ++ (wsL_law0_r18 ++ (wsL_law0_r19 ++ (wsL_law0_r20 ++ (wsL_law0_r21 ++ wsL_law0_r22))))))))))))))))))))) ++ wsX40 ++ wsX50 ++ wsX10 ++ wsX00 ++ wsX30 ++ wsX20 ++ ([] : List Cond)
def wsL_law : List Cond := wsL_law0 ++ (vx_atS RX4 46 "java/lang/IllegalStateException" ["java/lang/RuntimeException", "java/lang/Exception"]).filter goodWord ++ (vx_atS RX4 161 "java/lang/IndexOutOfBoundsException" ["java/lang/RuntimeException", "java/lang/Exception"]).filter goodWord ++ (vx_atS RX4 66 "java/lang/IllegalArgumentException" ["java/lang/RuntimeException", "java/lang/Exception"]).filter goodWord
abbrev vwCl : List vw_C := [(RX0, TX0, 4), (RX1, TX1, 6), (RX2, TX2, 9), (RX3, TX3, 6), (RX4, TX4, 8), (RX5, TX5, 21)]
end
section
theorem inJ6 : ∀ w ∈ wsJ60, w ∈ lw_tbl := by decide +kernel
theorem inJ9 : ∀ w ∈ wsJ90, w ∈ lw_tbl := by decide +kernel
theorem inJ0 : ∀ w ∈ wsJ00, w ∈ lw_tbl := by decide +kernel
theorem dX0_init_0 : decode cX0_init 0 = .ok (.aload_n 0, 1) := by decide +kernel
theorem dX0_init_1 : decode cX0_init 1 = .ok (.invokespecial 1, 3) := by decide +kernel
theorem dX0_init_4 : decode cX0_init 4 = .ok (.aload_n 0, 1) := by decide +kernel
theorem dX0_init_5 : decode cX0_init 5 = .ok (.iload_n 1, 1) := by decide +kernel
theorem dX0_init_6 : decode cX0_init 6 = .ok (.putfield 7, 3) := by decide +kernel
theorem dX0_init_9 : decode cX0_init 9 = .ok (.aload_n 0, 1) := by decide +kernel
theorem dX0_init_10 : decode cX0_init 10 = .ok (.iload_n 2, 1) := by decide +kernel
theorem dX0_init_11 : decode cX0_init 11 = .ok (.putfield 13, 3) := by decide +kernel
theorem dX0_init_14 : decode cX0_init 14 = .ok (.aload_n 0, 1) := by decide +kernel
theorem dX0_init_15 : decode cX0_init 15 = .ok (.iload_n 3, 1) := by decide +kernel
theorem dX0_init_16 : decode cX0_init 16 = .ok (.putfield 16, 3) := by decide +kernel
theorem dX0_init_19 : decode cX0_init 19 = .ok (.aload_n 0, 1) := by decide +kernel
theorem dX0_init_20 : decode cX0_init 20 = .ok (.iload 4, 2) := by decide +kernel
theorem dX0_init_22 : decode cX0_init 22 = .ok (.putfield 19, 3) := by decide +kernel
theorem dX0_init_25 : decode cX0_init 25 = .ok (.return_, 1) := by decide +kernel
theorem dX0_strikes_0 : decode cX0_strikes 0 = .ok (.aload_n 0, 1) := by decide +kernel
theorem dX0_strikes_1 : decode cX0_strikes 1 = .ok (.getfield 7, 3) := by decide +kernel
theorem dX0_strikes_4 : decode cX0_strikes 4 = .ok (.iload_n 1, 1) := by decide +kernel
theorem dX0_strikes_5 : decode cX0_strikes 5 = .ok (.if_icmp .ne 31, 3) := by decide +kernel
theorem dX0_strikes_8 : decode cX0_strikes 8 = .ok (.aload_n 0, 1) := by decide +kernel
theorem dX0_strikes_9 : decode cX0_strikes 9 = .ok (.getfield 13, 3) := by decide +kernel
theorem dX0_strikes_12 : decode cX0_strikes 12 = .ok (.iload_n 2, 1) := by decide +kernel
theorem dX0_strikes_13 : decode cX0_strikes 13 = .ok (.if_icmp .ne 23, 3) := by decide +kernel
theorem dX0_strikes_16 : decode cX0_strikes 16 = .ok (.aload_n 0, 1) := by decide +kernel
theorem dX0_strikes_17 : decode cX0_strikes 17 = .ok (.getfield 16, 3) := by decide +kernel
theorem dX0_strikes_20 : decode cX0_strikes 20 = .ok (.iload_n 3, 1) := by decide +kernel
theorem dX0_strikes_21 : decode cX0_strikes 21 = .ok (.if_icmp .gt 15, 3) := by decide +kernel
theorem dX0_strikes_24 : decode cX0_strikes 24 = .ok (.iload_n 3, 1) := by decide +kernel
theorem dX0_strikes_25 : decode cX0_strikes 25 = .ok (.aload_n 0, 1) := by decide +kernel
theorem dX0_strikes_26 : decode cX0_strikes 26 = .ok (.getfield 19, 3) := by decide +kernel
theorem dX0_strikes_29 : decode cX0_strikes 29 = .ok (.if_icmp .gt 7, 3) := by decide +kernel
theorem dX0_strikes_32 : decode cX0_strikes 32 = .ok (.iconst 1, 1) := by decide +kernel
theorem dX0_strikes_33 : decode cX0_strikes 33 = .ok (.goto 4, 3) := by decide +kernel
theorem dX0_strikes_36 : decode cX0_strikes 36 = .ok (.iconst 0, 1) := by decide +kernel
theorem dX0_strikes_37 : decode cX0_strikes 37 = .ok (.ireturn, 1) := by decide +kernel
theorem dX1_init_0 : decode cX1_init 0 = .ok (.aload_n 0, 1) := by decide +kernel
theorem dX1_init_1 : decode cX1_init 1 = .ok (.invokespecial 3, 3) := by decide +kernel
theorem dX1_init_4 : decode cX1_init 4 = .ok (.aload_n 0, 1) := by decide +kernel
theorem dX1_init_5 : decode cX1_init 5 = .ok (.bipush 11, 2) := by decide +kernel
theorem dX1_init_7 : decode cX1_init 7 = .ok (.anewarray 9, 3) := by decide +kernel
theorem dX1_init_10 : decode cX1_init 10 = .ok (.putfield 11, 3) := by decide +kernel
theorem dX1_init_13 : decode cX1_init 13 = .ok (.aload_n 0, 1) := by decide +kernel
theorem dX1_init_14 : decode cX1_init 14 = .ok (.iload_n 1, 1) := by decide +kernel
theorem dX1_init_15 : decode cX1_init 15 = .ok (.putfield 15, 3) := by decide +kernel
theorem dX1_init_18 : decode cX1_init 18 = .ok (.aload_n 0, 1) := by decide +kernel
theorem dX1_init_19 : decode cX1_init 19 = .ok (.iload_n 2, 1) := by decide +kernel
theorem dX1_init_20 : decode cX1_init 20 = .ok (.putfield 19, 3) := by decide +kernel
theorem dX1_init_23 : decode cX1_init 23 = .ok (.return_, 1) := by decide +kernel
theorem dX1_hasToldHeir_0 : decode cX1_hasToldHeir 0 = .ok (.aload_n 0, 1) := by decide +kernel
theorem dX1_hasToldHeir_1 : decode cX1_hasToldHeir 1 = .ok (.getfield 11, 3) := by decide +kernel
theorem dX1_hasToldHeir_4 : decode cX1_hasToldHeir 4 = .ok (.astore_n 2, 1) := by decide +kernel
theorem dX1_hasToldHeir_5 : decode cX1_hasToldHeir 5 = .ok (.aload_n 2, 1) := by decide +kernel
theorem dX1_hasToldHeir_6 : decode cX1_hasToldHeir 6 = .ok (.arraylength, 1) := by decide +kernel
theorem dX1_hasToldHeir_7 : decode cX1_hasToldHeir 7 = .ok (.istore_n 3, 1) := by decide +kernel
theorem dX1_hasToldHeir_8 : decode cX1_hasToldHeir 8 = .ok (.iconst 0, 1) := by decide +kernel
theorem dX1_hasToldHeir_9 : decode cX1_hasToldHeir 9 = .ok (.istore 4, 2) := by decide +kernel
theorem dX1_hasToldHeir_11 : decode cX1_hasToldHeir 11 = .ok (.iload 4, 2) := by decide +kernel
theorem dX1_hasToldHeir_13 : decode cX1_hasToldHeir 13 = .ok (.iload_n 3, 1) := by decide +kernel
theorem dX1_hasToldHeir_14 : decode cX1_hasToldHeir 14 = .ok (.if_icmp .ge 23, 3) := by decide +kernel
theorem dX1_hasToldHeir_17 : decode cX1_hasToldHeir 17 = .ok (.aload_n 2, 1) := by decide +kernel
theorem dX1_hasToldHeir_18 : decode cX1_hasToldHeir 18 = .ok (.iload 4, 2) := by decide +kernel
theorem dX1_hasToldHeir_20 : decode cX1_hasToldHeir 20 = .ok (.aaload, 1) := by decide +kernel
theorem dX1_hasToldHeir_21 : decode cX1_hasToldHeir 21 = .ok (.astore 5, 2) := by decide +kernel
theorem dX1_hasToldHeir_23 : decode cX1_hasToldHeir 23 = .ok (.aload 5, 2) := by decide +kernel
theorem dX1_hasToldHeir_25 : decode cX1_hasToldHeir 25 = .ok (.aload_n 1, 1) := by decide +kernel
theorem dX1_hasToldHeir_26 : decode cX1_hasToldHeir 26 = .ok (.if_acmp .ne 5, 3) := by decide +kernel
theorem dX1_hasToldHeir_29 : decode cX1_hasToldHeir 29 = .ok (.iconst 1, 1) := by decide +kernel
theorem dX1_hasToldHeir_30 : decode cX1_hasToldHeir 30 = .ok (.ireturn, 1) := by decide +kernel
theorem dX1_hasToldHeir_31 : decode cX1_hasToldHeir 31 = .ok (.iinc 4 1, 3) := by decide +kernel
theorem dX1_hasToldHeir_34 : decode cX1_hasToldHeir 34 = .ok (.goto (-23), 3) := by decide +kernel
theorem dX1_hasToldHeir_37 : decode cX1_hasToldHeir 37 = .ok (.iconst 0, 1) := by decide +kernel
theorem dX1_hasToldHeir_38 : decode cX1_hasToldHeir 38 = .ok (.ireturn, 1) := by decide +kernel
theorem dX2_init_0 : decode cX2_init 0 = .ok (.aload_n 0, 1) := by decide +kernel
theorem dX2_init_1 : decode cX2_init 1 = .ok (.invokespecial 1, 3) := by decide +kernel
theorem dX2_init_4 : decode cX2_init 4 = .ok (.aload_n 0, 1) := by decide +kernel
theorem dX2_init_5 : decode cX2_init 5 = .ok (.iload_n 1, 1) := by decide +kernel
theorem dX2_init_6 : decode cX2_init 6 = .ok (.putfield 7, 3) := by decide +kernel
theorem dX2_init_9 : decode cX2_init 9 = .ok (.aload_n 0, 1) := by decide +kernel
theorem dX2_init_10 : decode cX2_init 10 = .ok (.aload_n 2, 1) := by decide +kernel
theorem dX2_init_11 : decode cX2_init 11 = .ok (.putfield 13, 3) := by decide +kernel
theorem dX2_init_14 : decode cX2_init 14 = .ok (.aload_n 0, 1) := by decide +kernel
theorem dX2_init_15 : decode cX2_init 15 = .ok (.iload_n 3, 1) := by decide +kernel
theorem dX2_init_16 : decode cX2_init 16 = .ok (.putfield 17, 3) := by decide +kernel
theorem dX2_init_19 : decode cX2_init 19 = .ok (.aload_n 0, 1) := by decide +kernel
theorem dX2_init_20 : decode cX2_init 20 = .ok (.iload 4, 2) := by decide +kernel
theorem dX2_init_22 : decode cX2_init 22 = .ok (.putfield 20, 3) := by decide +kernel
theorem dX2_init_25 : decode cX2_init 25 = .ok (.aload_n 0, 1) := by decide +kernel
theorem dX2_init_26 : decode cX2_init 26 = .ok (.iload 5, 2) := by decide +kernel
theorem dX2_init_28 : decode cX2_init 28 = .ok (.putfield 23, 3) := by decide +kernel
theorem dX2_init_31 : decode cX2_init 31 = .ok (.return_, 1) := by decide +kernel
theorem dX3_init_0 : decode cX3_init 0 = .ok (.aload_n 0, 1) := by decide +kernel
theorem dX3_init_1 : decode cX3_init 1 = .ok (.invokespecial 3, 3) := by decide +kernel
theorem dX3_init_4 : decode cX3_init 4 = .ok (.aload_n 0, 1) := by decide +kernel
theorem dX3_init_5 : decode cX3_init 5 = .ok (.bipush 8, 2) := by decide +kernel
theorem dX3_init_7 : decode cX3_init 7 = .ok (.anewarray 9, 3) := by decide +kernel
theorem dX3_init_10 : decode cX3_init 10 = .ok (.putfield 11, 3) := by decide +kernel
theorem dX3_init_13 : decode cX3_init 13 = .ok (.aload_n 0, 1) := by decide +kernel
theorem dX3_init_14 : decode cX3_init 14 = .ok (.iload_n 1, 1) := by decide +kernel
theorem dX3_init_15 : decode cX3_init 15 = .ok (.putfield 17, 3) := by decide +kernel
theorem dX3_init_18 : decode cX3_init 18 = .ok (.aload_n 0, 1) := by decide +kernel
theorem dX3_init_19 : decode cX3_init 19 = .ok (.iload_n 2, 1) := by decide +kernel
theorem dX3_init_20 : decode cX3_init 20 = .ok (.putfield 21, 3) := by decide +kernel
theorem dX3_init_23 : decode cX3_init 23 = .ok (.return_, 1) := by decide +kernel
set_option maxRecDepth 20000 in
theorem ggX3_likenessTo_J6_bitCount_0f7a4 : GoodIn wsX3_likenessTo wsJ6_bitCount_0f7a4 := goodIn_r _ [10, 11, 12, 13] (by decide +kernel) (by decide +kernel)
set_option maxRecDepth 20000 in
theorem gX3_likenessTo_J6_bitCount_0f7a4 : GoodIn wsX3_likenessTo (va_wsS RX3 24 yJ6_bitCount_0f7a4 wsJ6_bitCount_0f7a4) := goodIn_app (goodIn_of _ (by decide +kernel)) ggX3_likenessTo_J6_bitCount_0f7a4
theorem dX3_likenessTo_0 : decode cX3_likenessTo 0 = .ok (.aload_n 0, 1) := by decide +kernel
theorem dX3_likenessTo_1 : decode cX3_likenessTo 1 = .ok (.getfield 17, 3) := by decide +kernel
theorem dX3_likenessTo_4 : decode cX3_likenessTo 4 = .ok (.aload_n 1, 1) := by decide +kernel
theorem dX3_likenessTo_5 : decode cX3_likenessTo 5 = .ok (.getfield 17, 3) := by decide +kernel
theorem dX3_likenessTo_8 : decode cX3_likenessTo 8 = .ok (.iand, 1) := by decide +kernel
theorem dX3_likenessTo_9 : decode cX3_likenessTo 9 = .ok (.invokestatic 24, 3) := by decide +kernel
theorem dX3_likenessTo_12 : decode cX3_likenessTo 12 = .ok (.istore_n 2, 1) := by decide +kernel
theorem dX3_likenessTo_13 : decode cX3_likenessTo 13 = .ok (.aload_n 0, 1) := by decide +kernel
theorem dX3_likenessTo_14 : decode cX3_likenessTo 14 = .ok (.getfield 17, 3) := by decide +kernel
theorem dX3_likenessTo_17 : decode cX3_likenessTo 17 = .ok (.aload_n 1, 1) := by decide +kernel
theorem dX3_likenessTo_18 : decode cX3_likenessTo 18 = .ok (.getfield 17, 3) := by decide +kernel
theorem dX3_likenessTo_21 : decode cX3_likenessTo 21 = .ok (.ixor, 1) := by decide +kernel
theorem dX3_likenessTo_22 : decode cX3_likenessTo 22 = .ok (.invokestatic 24, 3) := by decide +kernel
theorem dX3_likenessTo_25 : decode cX3_likenessTo 25 = .ok (.istore_n 3, 1) := by decide +kernel
theorem dX3_likenessTo_26 : decode cX3_likenessTo 26 = .ok (.bipush 10, 2) := by decide +kernel
theorem dX3_likenessTo_28 : decode cX3_likenessTo 28 = .ok (.iload_n 2, 1) := by decide +kernel
theorem dX3_likenessTo_29 : decode cX3_likenessTo 29 = .ok (.imul, 1) := by decide +kernel
theorem dX3_likenessTo_30 : decode cX3_likenessTo 30 = .ok (.iconst 5, 1) := by decide +kernel
theorem dX3_likenessTo_31 : decode cX3_likenessTo 31 = .ok (.iload_n 3, 1) := by decide +kernel
theorem dX3_likenessTo_32 : decode cX3_likenessTo 32 = .ok (.imul, 1) := by decide +kernel
theorem dX3_likenessTo_33 : decode cX3_likenessTo 33 = .ok (.isub, 1) := by decide +kernel
theorem dX3_likenessTo_34 : decode cX3_likenessTo 34 = .ok (.aload_n 0, 1) := by decide +kernel
theorem dX3_likenessTo_35 : decode cX3_likenessTo 35 = .ok (.getfield 21, 3) := by decide +kernel
theorem dX3_likenessTo_38 : decode cX3_likenessTo 38 = .ok (.aload_n 1, 1) := by decide +kernel
theorem dX3_likenessTo_39 : decode cX3_likenessTo 39 = .ok (.getfield 21, 3) := by decide +kernel
theorem dX3_likenessTo_42 : decode cX3_likenessTo 42 = .ok (.isub, 1) := by decide +kernel
theorem dX3_likenessTo_43 : decode cX3_likenessTo 43 = .ok (.invokestatic 30, 3) := by decide +kernel
theorem dX3_likenessTo_46 : decode cX3_likenessTo 46 = .ok (.isub, 1) := by decide +kernel
theorem dX3_likenessTo_47 : decode cX3_likenessTo 47 = .ok (.ireturn, 1) := by decide +kernel
theorem dX3_lastParty_0 : decode cX3_lastParty 0 = .ok (.aload_n 0, 1) := by decide +kernel
theorem dX3_lastParty_1 : decode cX3_lastParty 1 = .ok (.getfield 35, 3) := by decide +kernel
theorem dX3_lastParty_4 : decode cX3_lastParty 4 = .ok (.ifnonnull 7, 3) := by decide +kernel
theorem dX3_lastParty_7 : decode cX3_lastParty 7 = .ok (.aconst_null, 1) := by decide +kernel
theorem dX3_lastParty_8 : decode cX3_lastParty 8 = .ok (.goto 10, 3) := by decide +kernel
theorem dX3_lastParty_11 : decode cX3_lastParty 11 = .ok (.aload_n 0, 1) := by decide +kernel
theorem dX3_lastParty_12 : decode cX3_lastParty 12 = .ok (.getfield 35, 3) := by decide +kernel
theorem dX3_lastParty_15 : decode cX3_lastParty 15 = .ok (.getfield 39, 3) := by decide +kernel
theorem dX3_lastParty_18 : decode cX3_lastParty 18 = .ok (.areturn, 1) := by decide +kernel
theorem dX3_putInOrder_0 : decode cX3_putInOrder 0 = .ok (.aload_n 0, 1) := by decide +kernel
theorem dX3_putInOrder_1 : decode cX3_putInOrder 1 = .ok (.getfield 35, 3) := by decide +kernel
theorem dX3_putInOrder_4 : decode cX3_putInOrder 4 = .ok (.astore_n 2, 1) := by decide +kernel
theorem dX3_putInOrder_5 : decode cX3_putInOrder 5 = .ok (.aload_n 2, 1) := by decide +kernel
theorem dX3_putInOrder_6 : decode cX3_putInOrder 6 = .ok (.ifnull 22, 3) := by decide +kernel
theorem dX3_putInOrder_9 : decode cX3_putInOrder 9 = .ok (.aload_n 2, 1) := by decide +kernel
theorem dX3_putInOrder_10 : decode cX3_putInOrder 10 = .ok (.getfield 43, 3) := by decide +kernel
theorem dX3_putInOrder_13 : decode cX3_putInOrder 13 = .ok (.aload_n 1, 1) := by decide +kernel
theorem dX3_putInOrder_14 : decode cX3_putInOrder 14 = .ok (.getfield 43, 3) := by decide +kernel
theorem dX3_putInOrder_17 : decode cX3_putInOrder 17 = .ok (.if_icmp .le 11, 3) := by decide +kernel
theorem dX3_putInOrder_20 : decode cX3_putInOrder 20 = .ok (.aload_n 2, 1) := by decide +kernel
theorem dX3_putInOrder_21 : decode cX3_putInOrder 21 = .ok (.getfield 46, 3) := by decide +kernel
theorem dX3_putInOrder_24 : decode cX3_putInOrder 24 = .ok (.astore_n 2, 1) := by decide +kernel
theorem dX3_putInOrder_25 : decode cX3_putInOrder 25 = .ok (.goto (-20), 3) := by decide +kernel
theorem dX3_putInOrder_28 : decode cX3_putInOrder 28 = .ok (.aload_n 2, 1) := by decide +kernel
theorem dX3_putInOrder_29 : decode cX3_putInOrder 29 = .ok (.ifnonnull 10, 3) := by decide +kernel
theorem dX3_putInOrder_32 : decode cX3_putInOrder 32 = .ok (.aload_n 0, 1) := by decide +kernel
theorem dX3_putInOrder_33 : decode cX3_putInOrder 33 = .ok (.getfield 49, 3) := by decide +kernel
theorem dX3_putInOrder_36 : decode cX3_putInOrder 36 = .ok (.goto 7, 3) := by decide +kernel
theorem dX3_putInOrder_39 : decode cX3_putInOrder 39 = .ok (.aload_n 2, 1) := by decide +kernel
theorem dX3_putInOrder_40 : decode cX3_putInOrder 40 = .ok (.getfield 52, 3) := by decide +kernel
theorem dX3_putInOrder_43 : decode cX3_putInOrder 43 = .ok (.astore_n 3, 1) := by decide +kernel
theorem dX3_putInOrder_44 : decode cX3_putInOrder 44 = .ok (.aload_n 1, 1) := by decide +kernel
theorem dX3_putInOrder_45 : decode cX3_putInOrder 45 = .ok (.aload_n 2, 1) := by decide +kernel
theorem dX3_putInOrder_46 : decode cX3_putInOrder 46 = .ok (.putfield 46, 3) := by decide +kernel
theorem dX3_putInOrder_49 : decode cX3_putInOrder 49 = .ok (.aload_n 1, 1) := by decide +kernel
theorem dX3_putInOrder_50 : decode cX3_putInOrder 50 = .ok (.aload_n 3, 1) := by decide +kernel
theorem dX3_putInOrder_51 : decode cX3_putInOrder 51 = .ok (.putfield 52, 3) := by decide +kernel
theorem dX3_putInOrder_54 : decode cX3_putInOrder 54 = .ok (.aload_n 2, 1) := by decide +kernel
theorem dX3_putInOrder_55 : decode cX3_putInOrder 55 = .ok (.ifnonnull 11, 3) := by decide +kernel
theorem dX3_putInOrder_58 : decode cX3_putInOrder 58 = .ok (.aload_n 0, 1) := by decide +kernel
theorem dX3_putInOrder_59 : decode cX3_putInOrder 59 = .ok (.aload_n 1, 1) := by decide +kernel
theorem dX3_putInOrder_60 : decode cX3_putInOrder 60 = .ok (.putfield 49, 3) := by decide +kernel
theorem dX3_putInOrder_63 : decode cX3_putInOrder 63 = .ok (.goto 8, 3) := by decide +kernel
theorem dX3_putInOrder_66 : decode cX3_putInOrder 66 = .ok (.aload_n 2, 1) := by decide +kernel
theorem dX3_putInOrder_67 : decode cX3_putInOrder 67 = .ok (.aload_n 1, 1) := by decide +kernel
theorem dX3_putInOrder_68 : decode cX3_putInOrder 68 = .ok (.putfield 52, 3) := by decide +kernel
theorem dX3_putInOrder_71 : decode cX3_putInOrder 71 = .ok (.aload_n 3, 1) := by decide +kernel
theorem dX3_putInOrder_72 : decode cX3_putInOrder 72 = .ok (.ifnonnull 11, 3) := by decide +kernel
theorem dX3_putInOrder_75 : decode cX3_putInOrder 75 = .ok (.aload_n 0, 1) := by decide +kernel
theorem dX3_putInOrder_76 : decode cX3_putInOrder 76 = .ok (.aload_n 1, 1) := by decide +kernel
theorem dX3_putInOrder_77 : decode cX3_putInOrder 77 = .ok (.putfield 35, 3) := by decide +kernel
theorem dX3_putInOrder_80 : decode cX3_putInOrder 80 = .ok (.goto 8, 3) := by decide +kernel
theorem dX3_putInOrder_83 : decode cX3_putInOrder 83 = .ok (.aload_n 3, 1) := by decide +kernel
theorem dX3_putInOrder_84 : decode cX3_putInOrder 84 = .ok (.aload_n 1, 1) := by decide +kernel
theorem dX3_putInOrder_85 : decode cX3_putInOrder 85 = .ok (.putfield 46, 3) := by decide +kernel
theorem dX3_putInOrder_88 : decode cX3_putInOrder 88 = .ok (.return_, 1) := by decide +kernel
theorem dX4_init_0 : decode cX4_init 0 = .ok (.aload_n 0, 1) := by decide +kernel
theorem dX4_init_1 : decode cX4_init 1 = .ok (.invokespecial 1, 3) := by decide +kernel
theorem dX4_init_4 : decode cX4_init 4 = .ok (.aload_n 0, 1) := by decide +kernel
theorem dX4_init_5 : decode cX4_init 5 = .ok (.bipush 12, 2) := by decide +kernel
theorem dX4_init_7 : decode cX4_init 7 = .ok (.anewarray 9, 3) := by decide +kernel
theorem dX4_init_10 : decode cX4_init 10 = .ok (.putfield 11, 3) := by decide +kernel
theorem dX4_init_13 : decode cX4_init 13 = .ok (.aload_n 0, 1) := by decide +kernel
theorem dX4_init_14 : decode cX4_init 14 = .ok (.bipush 20, 2) := by decide +kernel
theorem dX4_init_16 : decode cX4_init 16 = .ok (.anewarray 15, 3) := by decide +kernel
theorem dX4_init_19 : decode cX4_init 19 = .ok (.putfield 17, 3) := by decide +kernel
theorem dX4_init_22 : decode cX4_init 22 = .ok (.aload_n 0, 1) := by decide +kernel
theorem dX4_init_23 : decode cX4_init 23 = .ok (.iconst 5, 1) := by decide +kernel
theorem dX4_init_24 : decode cX4_init 24 = .ok (.newarray .int, 2) := by decide +kernel
theorem dX4_init_26 : decode cX4_init 26 = .ok (.putfield 21, 3) := by decide +kernel
theorem dX4_init_29 : decode cX4_init 29 = .ok (.aload_n 0, 1) := by decide +kernel
theorem dX4_init_30 : decode cX4_init 30 = .ok (.sipush 1900, 3) := by decide +kernel
theorem dX4_init_33 : decode cX4_init 33 = .ok (.putfield 25, 3) := by decide +kernel
theorem dX4_init_36 : decode cX4_init 36 = .ok (.aload_n 0, 1) := by decide +kernel
theorem dX4_init_37 : decode cX4_init 37 = .ok (.bipush 10, 2) := by decide +kernel
theorem dX4_init_39 : decode cX4_init 39 = .ok (.anewarray 29, 3) := by decide +kernel
theorem dX4_init_42 : decode cX4_init 42 = .ok (.putfield 31, 3) := by decide +kernel
theorem dX4_init_45 : decode cX4_init 45 = .ok (.return_, 1) := by decide +kernel
set_option maxRecDepth 20000 in
theorem ggX4_person_X4_requireGroup : GoodIn wsX4_person wsX4_requireGroup := goodIn_ca (goodIn_r _ [11, 12, 13] (by decide +kernel) (by decide +kernel)) (goodIn_sub (fun _ h => List.mem_cons_of_mem _ (List.mem_append_right _ h)) (by decide +kernel))
set_option maxRecDepth 20000 in
theorem gX4_person_X4_requireGroup : GoodIn wsX4_person (va_wsS RX4 35 yX4_requireGroup wsX4_requireGroup) := goodIn_app (goodIn_of _ (by decide +kernel)) ggX4_person_X4_requireGroup
set_option maxRecDepth 20000 in
theorem ggX4_person_X1_init : GoodIn wsX4_person wsX1_init := goodIn_r _ [16, 17, 18, 19, 20, 21, 22, 23, 32, 33, 34, 35, 36, 37] (by decide +kernel) (by decide +kernel)
set_option maxRecDepth 20000 in
theorem gX4_person_X1_init : GoodIn wsX4_person (wsX1_init) := ggX4_person_X1_init
theorem dX4_person_0 : decode cX4_person 0 = .ok (.iload_n 1, 1) := by decide +kernel
theorem dX4_person_1 : decode cX4_person 1 = .ok (.invokestatic 35, 3) := by decide +kernel
theorem dX4_person_4 : decode cX4_person 4 = .ok (.aload_n 0, 1) := by decide +kernel
theorem dX4_person_5 : decode cX4_person 5 = .ok (.getfield 39, 3) := by decide +kernel
theorem dX4_person_8 : decode cX4_person 8 = .ok (.bipush 12, 2) := by decide +kernel
theorem dX4_person_10 : decode cX4_person 10 = .ok (.if_icmp .lt 13, 3) := by decide +kernel
theorem dX4_person_13 : decode cX4_person 13 = .ok (.new 42, 3) := by decide +kernel
theorem dX4_person_16 : decode cX4_person 16 = .ok (.dup, 1) := by decide +kernel
theorem dX4_person_17 : decode cX4_person 17 = .ok (.ldc 44, 2) := by decide +kernel
theorem dX4_person_19 : decode cX4_person 19 = .ok (.invokespecial 46, 3) := by decide +kernel
theorem dX4_person_22 : decode cX4_person 22 = .ok (.athrow, 1) := by decide +kernel
theorem dX4_person_23 : decode cX4_person 23 = .ok (.aload_n 0, 1) := by decide +kernel
theorem dX4_person_24 : decode cX4_person 24 = .ok (.getfield 39, 3) := by decide +kernel
theorem dX4_person_27 : decode cX4_person 27 = .ok (.istore_n 2, 1) := by decide +kernel
theorem dX4_person_28 : decode cX4_person 28 = .ok (.aload_n 0, 1) := by decide +kernel
theorem dX4_person_29 : decode cX4_person 29 = .ok (.getfield 11, 3) := by decide +kernel
theorem dX4_person_32 : decode cX4_person 32 = .ok (.iload_n 2, 1) := by decide +kernel
theorem dX4_person_33 : decode cX4_person 33 = .ok (.new 9, 3) := by decide +kernel
theorem dX4_person_36 : decode cX4_person 36 = .ok (.dup, 1) := by decide +kernel
theorem dX4_person_37 : decode cX4_person 37 = .ok (.iload_n 2, 1) := by decide +kernel
theorem dX4_person_38 : decode cX4_person 38 = .ok (.iload_n 1, 1) := by decide +kernel
theorem dX4_person_39 : decode cX4_person 39 = .ok (.invokespecial 49, 3) := by decide +kernel
theorem dX4_person_42 : decode cX4_person 42 = .ok (.aastore, 1) := by decide +kernel
theorem dX4_person_43 : decode cX4_person 43 = .ok (.aload_n 0, 1) := by decide +kernel
theorem dX4_person_44 : decode cX4_person 44 = .ok (.iload_n 2, 1) := by decide +kernel
theorem dX4_person_45 : decode cX4_person 45 = .ok (.iconst 1, 1) := by decide +kernel
theorem dX4_person_46 : decode cX4_person 46 = .ok (.iadd, 1) := by decide +kernel
theorem dX4_person_47 : decode cX4_person 47 = .ok (.putfield 39, 3) := by decide +kernel
theorem dX4_person_50 : decode cX4_person 50 = .ok (.iload_n 2, 1) := by decide +kernel
theorem dX4_person_51 : decode cX4_person 51 = .ok (.ireturn, 1) := by decide +kernel
set_option maxRecDepth 20000 in
theorem ggX4_die_X4_personNumbered : GoodIn wsX4_die wsX4_personNumbered := goodIn_ca (goodIn_r _ [8, 9, 10, 11, 18, 19, 20, 21, 22, 23, 24, 25] (by decide +kernel) (by decide +kernel)) (goodIn_sub (fun _ h => List.mem_cons_of_mem _ (List.mem_append_right _ h)) (by decide +kernel))
set_option maxRecDepth 20000 in
theorem gX4_die_X4_personNumbered : GoodIn wsX4_die (wsV RX4 52 RX4 yX4_personNumbered wsX4_personNumbered) := goodIn_app (goodIn_of _ (by decide +kernel)) ggX4_die_X4_personNumbered
theorem dX4_die_0 : decode cX4_die 0 = .ok (.aload_n 0, 1) := by decide +kernel
theorem dX4_die_1 : decode cX4_die 1 = .ok (.iload_n 1, 1) := by decide +kernel
theorem dX4_die_2 : decode cX4_die 2 = .ok (.invokevirtual 52, 3) := by decide +kernel
theorem dX4_die_5 : decode cX4_die 5 = .ok (.astore_n 2, 1) := by decide +kernel
theorem dX4_die_6 : decode cX4_die 6 = .ok (.aload_n 2, 1) := by decide +kernel
theorem dX4_die_7 : decode cX4_die 7 = .ok (.getfield 56, 3) := by decide +kernel
theorem dX4_die_10 : decode cX4_die 10 = .ok (.ifCond .eq 13, 3) := by decide +kernel
theorem dX4_die_13 : decode cX4_die 13 = .ok (.new 42, 3) := by decide +kernel
theorem dX4_die_16 : decode cX4_die 16 = .ok (.dup, 1) := by decide +kernel
theorem dX4_die_17 : decode cX4_die 17 = .ok (.ldc 60, 2) := by decide +kernel
theorem dX4_die_19 : decode cX4_die 19 = .ok (.invokespecial 46, 3) := by decide +kernel
theorem dX4_die_22 : decode cX4_die 22 = .ok (.athrow, 1) := by decide +kernel
theorem dX4_die_23 : decode cX4_die 23 = .ok (.aload_n 2, 1) := by decide +kernel
theorem dX4_die_24 : decode cX4_die 24 = .ok (.iconst 1, 1) := by decide +kernel
theorem dX4_die_25 : decode cX4_die 25 = .ok (.putfield 56, 3) := by decide +kernel
theorem dX4_die_28 : decode cX4_die 28 = .ok (.return_, 1) := by decide +kernel
set_option maxRecDepth 20000 in
theorem ggX4_heir_X4_personNumbered : GoodIn wsX4_heir wsX4_personNumbered := goodIn_ca (goodIn_r _ [11, 12, 13, 14, 27, 28, 29, 30, 31, 32, 33, 34] (by decide +kernel) (by decide +kernel)) (goodIn_sub (fun _ h => List.mem_cons_of_mem _ (List.mem_append_right _ h)) (by decide +kernel))
set_option maxRecDepth 20000 in
theorem gX4_heir_X4_personNumbered : GoodIn wsX4_heir (wsV RX4 52 RX4 yX4_personNumbered wsX4_personNumbered) := goodIn_app (goodIn_of _ (by decide +kernel)) ggX4_heir_X4_personNumbered
set_option maxRecDepth 20000 in
theorem ggX4_heir_X1_hasToldHeir : GoodIn wsX4_heir wsX1_hasToldHeir := goodIn_r _ [19, 20, 21, 22, 23, 24, 25, 26] (by decide +kernel) (by decide +kernel)
set_option maxRecDepth 20000 in
theorem gX4_heir_X1_hasToldHeir : GoodIn wsX4_heir (wsV RX4 67 RX1 yX1_hasToldHeir wsX1_hasToldHeir) := goodIn_app (goodIn_of _ (by decide +kernel)) ggX4_heir_X1_hasToldHeir
theorem dX4_heir_0 : decode cX4_heir 0 = .ok (.aload_n 0, 1) := by decide +kernel
theorem dX4_heir_1 : decode cX4_heir 1 = .ok (.iload_n 1, 1) := by decide +kernel
theorem dX4_heir_2 : decode cX4_heir 2 = .ok (.invokevirtual 52, 3) := by decide +kernel
theorem dX4_heir_5 : decode cX4_heir 5 = .ok (.astore_n 3, 1) := by decide +kernel
theorem dX4_heir_6 : decode cX4_heir 6 = .ok (.aload_n 0, 1) := by decide +kernel
theorem dX4_heir_7 : decode cX4_heir 7 = .ok (.iload_n 2, 1) := by decide +kernel
theorem dX4_heir_8 : decode cX4_heir 8 = .ok (.invokevirtual 52, 3) := by decide +kernel
theorem dX4_heir_11 : decode cX4_heir 11 = .ok (.astore 4, 2) := by decide +kernel
theorem dX4_heir_13 : decode cX4_heir 13 = .ok (.aload_n 3, 1) := by decide +kernel
theorem dX4_heir_14 : decode cX4_heir 14 = .ok (.aload 4, 2) := by decide +kernel
theorem dX4_heir_16 : decode cX4_heir 16 = .ok (.if_acmp .ne 13, 3) := by decide +kernel
theorem dX4_heir_19 : decode cX4_heir 19 = .ok (.new 62, 3) := by decide +kernel
theorem dX4_heir_22 : decode cX4_heir 22 = .ok (.dup, 1) := by decide +kernel
theorem dX4_heir_23 : decode cX4_heir 23 = .ok (.ldc 64, 2) := by decide +kernel
theorem dX4_heir_25 : decode cX4_heir 25 = .ok (.invokespecial 66, 3) := by decide +kernel
theorem dX4_heir_28 : decode cX4_heir 28 = .ok (.athrow, 1) := by decide +kernel
theorem dX4_heir_29 : decode cX4_heir 29 = .ok (.aload_n 3, 1) := by decide +kernel
theorem dX4_heir_30 : decode cX4_heir 30 = .ok (.aload 4, 2) := by decide +kernel
theorem dX4_heir_32 : decode cX4_heir 32 = .ok (.invokevirtual 67, 3) := by decide +kernel
theorem dX4_heir_35 : decode cX4_heir 35 = .ok (.ifCond .ne 15, 3) := by decide +kernel
theorem dX4_heir_38 : decode cX4_heir 38 = .ok (.aload_n 3, 1) := by decide +kernel
theorem dX4_heir_39 : decode cX4_heir 39 = .ok (.getfield 71, 3) := by decide +kernel
theorem dX4_heir_42 : decode cX4_heir 42 = .ok (.aload_n 3, 1) := by decide +kernel
theorem dX4_heir_43 : decode cX4_heir 43 = .ok (.getfield 74, 3) := by decide +kernel
theorem dX4_heir_46 : decode cX4_heir 46 = .ok (.arraylength, 1) := by decide +kernel
theorem dX4_heir_47 : decode cX4_heir 47 = .ok (.if_icmp .lt 13, 3) := by decide +kernel
theorem dX4_heir_50 : decode cX4_heir 50 = .ok (.new 42, 3) := by decide +kernel
theorem dX4_heir_53 : decode cX4_heir 53 = .ok (.dup, 1) := by decide +kernel
theorem dX4_heir_54 : decode cX4_heir 54 = .ok (.ldc 77, 2) := by decide +kernel
theorem dX4_heir_56 : decode cX4_heir 56 = .ok (.invokespecial 46, 3) := by decide +kernel
theorem dX4_heir_59 : decode cX4_heir 59 = .ok (.athrow, 1) := by decide +kernel
theorem dX4_heir_60 : decode cX4_heir 60 = .ok (.aload_n 3, 1) := by decide +kernel
theorem dX4_heir_61 : decode cX4_heir 61 = .ok (.getfield 74, 3) := by decide +kernel
theorem dX4_heir_64 : decode cX4_heir 64 = .ok (.aload_n 3, 1) := by decide +kernel
theorem dX4_heir_65 : decode cX4_heir 65 = .ok (.getfield 71, 3) := by decide +kernel
theorem dX4_heir_68 : decode cX4_heir 68 = .ok (.aload 4, 2) := by decide +kernel
theorem dX4_heir_70 : decode cX4_heir 70 = .ok (.aastore, 1) := by decide +kernel
theorem dX4_heir_71 : decode cX4_heir 71 = .ok (.aload_n 3, 1) := by decide +kernel
theorem dX4_heir_72 : decode cX4_heir 72 = .ok (.dup, 1) := by decide +kernel
theorem dX4_heir_73 : decode cX4_heir 73 = .ok (.getfield 71, 3) := by decide +kernel
theorem dX4_heir_76 : decode cX4_heir 76 = .ok (.iconst 1, 1) := by decide +kernel
theorem dX4_heir_77 : decode cX4_heir 77 = .ok (.iadd, 1) := by decide +kernel
theorem dX4_heir_78 : decode cX4_heir 78 = .ok (.putfield 71, 3) := by decide +kernel
theorem dX4_heir_81 : decode cX4_heir 81 = .ok (.aload_n 3, 1) := by decide +kernel
theorem dX4_heir_82 : decode cX4_heir 82 = .ok (.getfield 71, 3) := by decide +kernel
theorem dX4_heir_85 : decode cX4_heir 85 = .ok (.ireturn, 1) := by decide +kernel
set_option maxRecDepth 20000 in
theorem ggX4_persecution_X4_requireGroup : GoodIn wsX4_persecution wsX4_requireGroup := goodIn_ca (goodIn_r _ [11, 12, 13] (by decide +kernel) (by decide +kernel)) (goodIn_sub (fun _ h => List.mem_cons_of_mem _ (List.mem_append_left _ (List.mem_append_right _ h))) (by decide +kernel))
set_option maxRecDepth 20000 in
theorem gX4_persecution_X4_requireGroup : GoodIn wsX4_persecution (va_wsS RX4 35 yX4_requireGroup wsX4_requireGroup) := goodIn_app (goodIn_of _ (by decide +kernel)) ggX4_persecution_X4_requireGroup
set_option maxRecDepth 20000 in
theorem ggX4_persecution_X4_requireLand : GoodIn wsX4_persecution wsX4_requireLand := goodIn_ca (goodIn_r _ [16, 12, 13] (by decide +kernel) (by decide +kernel)) (goodIn_sub (fun _ h => List.mem_cons_of_mem _ (List.mem_append_left _ (List.mem_append_right _ h))) (by decide +kernel))
set_option maxRecDepth 20000 in
theorem gX4_persecution_X4_requireLand : GoodIn wsX4_persecution (va_wsS RX4 79 yX4_requireLand wsX4_requireLand) := goodIn_app (goodIn_of _ (by decide +kernel)) ggX4_persecution_X4_requireLand
set_option maxRecDepth 20000 in
theorem ggX4_persecution_X4_requireRange : GoodIn wsX4_persecution wsX4_requireRange := goodIn_ca (goodIn_r _ [19, 20, 21] (by decide +kernel) (by decide +kernel)) (goodIn_sub (fun _ h => List.mem_cons_of_mem _ (List.mem_append_right _ h)) (by decide +kernel))
set_option maxRecDepth 20000 in
theorem gX4_persecution_X4_requireRange : GoodIn wsX4_persecution (va_wsS RX4 82 yX4_requireRange wsX4_requireRange) := goodIn_app (goodIn_of _ (by decide +kernel)) ggX4_persecution_X4_requireRange
set_option maxRecDepth 20000 in
theorem ggX4_persecution_X0_init : GoodIn wsX4_persecution wsX0_init := goodIn_r _ [24, 25, 26, 27, 28, 29, 30, 31, 40, 41, 42, 43] (by decide +kernel) (by decide +kernel)
set_option maxRecDepth 20000 in
theorem gX4_persecution_X0_init : GoodIn wsX4_persecution (wsX0_init) := ggX4_persecution_X0_init
theorem dX4_persecution_0 : decode cX4_persecution 0 = .ok (.iload_n 1, 1) := by decide +kernel
theorem dX4_persecution_1 : decode cX4_persecution 1 = .ok (.invokestatic 35, 3) := by decide +kernel
theorem dX4_persecution_4 : decode cX4_persecution 4 = .ok (.iload_n 2, 1) := by decide +kernel
theorem dX4_persecution_5 : decode cX4_persecution 5 = .ok (.invokestatic 79, 3) := by decide +kernel
theorem dX4_persecution_8 : decode cX4_persecution 8 = .ok (.iload_n 3, 1) := by decide +kernel
theorem dX4_persecution_9 : decode cX4_persecution 9 = .ok (.sipush 1900, 3) := by decide +kernel
theorem dX4_persecution_12 : decode cX4_persecution 12 = .ok (.sipush 2100, 3) := by decide +kernel
theorem dX4_persecution_15 : decode cX4_persecution 15 = .ok (.invokestatic 82, 3) := by decide +kernel
theorem dX4_persecution_18 : decode cX4_persecution 18 = .ok (.iload 4, 2) := by decide +kernel
theorem dX4_persecution_20 : decode cX4_persecution 20 = .ok (.iload_n 3, 1) := by decide +kernel
theorem dX4_persecution_21 : decode cX4_persecution 21 = .ok (.sipush 2100, 3) := by decide +kernel
theorem dX4_persecution_24 : decode cX4_persecution 24 = .ok (.invokestatic 82, 3) := by decide +kernel
theorem dX4_persecution_27 : decode cX4_persecution 27 = .ok (.aload_n 0, 1) := by decide +kernel
theorem dX4_persecution_28 : decode cX4_persecution 28 = .ok (.getfield 86, 3) := by decide +kernel
theorem dX4_persecution_31 : decode cX4_persecution 31 = .ok (.bipush 20, 2) := by decide +kernel
theorem dX4_persecution_33 : decode cX4_persecution 33 = .ok (.if_icmp .lt 13, 3) := by decide +kernel
theorem dX4_persecution_36 : decode cX4_persecution 36 = .ok (.new 42, 3) := by decide +kernel
theorem dX4_persecution_39 : decode cX4_persecution 39 = .ok (.dup, 1) := by decide +kernel
theorem dX4_persecution_40 : decode cX4_persecution 40 = .ok (.ldc 89, 2) := by decide +kernel
theorem dX4_persecution_42 : decode cX4_persecution 42 = .ok (.invokespecial 46, 3) := by decide +kernel
theorem dX4_persecution_45 : decode cX4_persecution 45 = .ok (.athrow, 1) := by decide +kernel
theorem dX4_persecution_46 : decode cX4_persecution 46 = .ok (.aload_n 0, 1) := by decide +kernel
theorem dX4_persecution_47 : decode cX4_persecution 47 = .ok (.getfield 17, 3) := by decide +kernel
theorem dX4_persecution_50 : decode cX4_persecution 50 = .ok (.aload_n 0, 1) := by decide +kernel
theorem dX4_persecution_51 : decode cX4_persecution 51 = .ok (.getfield 86, 3) := by decide +kernel
theorem dX4_persecution_54 : decode cX4_persecution 54 = .ok (.new 15, 3) := by decide +kernel
theorem dX4_persecution_57 : decode cX4_persecution 57 = .ok (.dup, 1) := by decide +kernel
theorem dX4_persecution_58 : decode cX4_persecution 58 = .ok (.iload_n 1, 1) := by decide +kernel
theorem dX4_persecution_59 : decode cX4_persecution 59 = .ok (.iload_n 2, 1) := by decide +kernel
theorem dX4_persecution_60 : decode cX4_persecution 60 = .ok (.iload_n 3, 1) := by decide +kernel
theorem dX4_persecution_61 : decode cX4_persecution 61 = .ok (.iload 4, 2) := by decide +kernel
theorem dX4_persecution_63 : decode cX4_persecution 63 = .ok (.invokespecial 91, 3) := by decide +kernel
theorem dX4_persecution_66 : decode cX4_persecution 66 = .ok (.aastore, 1) := by decide +kernel
theorem dX4_persecution_67 : decode cX4_persecution 67 = .ok (.aload_n 0, 1) := by decide +kernel
theorem dX4_persecution_68 : decode cX4_persecution 68 = .ok (.dup, 1) := by decide +kernel
theorem dX4_persecution_69 : decode cX4_persecution 69 = .ok (.getfield 86, 3) := by decide +kernel
theorem dX4_persecution_72 : decode cX4_persecution 72 = .ok (.iconst 1, 1) := by decide +kernel
theorem dX4_persecution_73 : decode cX4_persecution 73 = .ok (.iadd, 1) := by decide +kernel
theorem dX4_persecution_74 : decode cX4_persecution 74 = .ok (.putfield 86, 3) := by decide +kernel
theorem dX4_persecution_77 : decode cX4_persecution 77 = .ok (.aload_n 0, 1) := by decide +kernel
theorem dX4_persecution_78 : decode cX4_persecution 78 = .ok (.getfield 86, 3) := by decide +kernel
theorem dX4_persecution_81 : decode cX4_persecution 81 = .ok (.ireturn, 1) := by decide +kernel
set_option maxRecDepth 20000 in
theorem ggX4_faith_X4_requireLand : GoodIn wsX4_faith wsX4_requireLand := goodIn_ca (goodIn_r _ [5, 6, 7] (by decide +kernel) (by decide +kernel)) (goodIn_sub (fun _ h => List.mem_cons_of_mem _ (List.mem_append_left _ (List.mem_append_right _ h))) (by decide +kernel))
set_option maxRecDepth 20000 in
theorem gX4_faith_X4_requireLand : GoodIn wsX4_faith (va_wsS RX4 79 yX4_requireLand wsX4_requireLand) := goodIn_app (goodIn_of _ (by decide +kernel)) ggX4_faith_X4_requireLand
set_option maxRecDepth 20000 in
theorem ggX4_faith_X4_requireRange : GoodIn wsX4_faith wsX4_requireRange := goodIn_ca (goodIn_r _ [10, 11, 12] (by decide +kernel) (by decide +kernel)) (goodIn_sub (fun _ h => List.mem_cons_of_mem _ (List.mem_append_right _ h)) (by decide +kernel))
set_option maxRecDepth 20000 in
theorem gX4_faith_X4_requireRange : GoodIn wsX4_faith (va_wsS RX4 82 yX4_requireRange wsX4_requireRange) := goodIn_app (goodIn_of _ (by decide +kernel)) ggX4_faith_X4_requireRange
theorem dX4_faith_0 : decode cX4_faith 0 = .ok (.iload_n 1, 1) := by decide +kernel
theorem dX4_faith_1 : decode cX4_faith 1 = .ok (.invokestatic 79, 3) := by decide +kernel
theorem dX4_faith_4 : decode cX4_faith 4 = .ok (.iload_n 2, 1) := by decide +kernel
theorem dX4_faith_5 : decode cX4_faith 5 = .ok (.iconst 0, 1) := by decide +kernel
theorem dX4_faith_6 : decode cX4_faith 6 = .ok (.bipush 60, 2) := by decide +kernel
theorem dX4_faith_8 : decode cX4_faith 8 = .ok (.invokestatic 82, 3) := by decide +kernel
theorem dX4_faith_11 : decode cX4_faith 11 = .ok (.aload_n 0, 1) := by decide +kernel
theorem dX4_faith_12 : decode cX4_faith 12 = .ok (.getfield 21, 3) := by decide +kernel
theorem dX4_faith_15 : decode cX4_faith 15 = .ok (.iload_n 1, 1) := by decide +kernel
theorem dX4_faith_16 : decode cX4_faith 16 = .ok (.iaload, 1) := by decide +kernel
theorem dX4_faith_17 : decode cX4_faith 17 = .ok (.istore_n 3, 1) := by decide +kernel
theorem dX4_faith_18 : decode cX4_faith 18 = .ok (.aload_n 0, 1) := by decide +kernel
theorem dX4_faith_19 : decode cX4_faith 19 = .ok (.getfield 21, 3) := by decide +kernel
theorem dX4_faith_22 : decode cX4_faith 22 = .ok (.iload_n 1, 1) := by decide +kernel
theorem dX4_faith_23 : decode cX4_faith 23 = .ok (.iload_n 2, 1) := by decide +kernel
theorem dX4_faith_24 : decode cX4_faith 24 = .ok (.iastore, 1) := by decide +kernel
theorem dX4_faith_25 : decode cX4_faith 25 = .ok (.iload_n 3, 1) := by decide +kernel
theorem dX4_faith_26 : decode cX4_faith 26 = .ok (.ireturn, 1) := by decide +kernel
set_option maxRecDepth 20000 in
theorem ggX4_now_X4_requireRange : GoodIn wsX4_now wsX4_requireRange := goodIn_ca (goodIn_r _ [5, 6, 7] (by decide +kernel) (by decide +kernel)) (goodIn_sub (fun _ h => List.mem_cons_of_mem _ (List.mem_append_right _ h)) (by decide +kernel))
set_option maxRecDepth 20000 in
theorem gX4_now_X4_requireRange : GoodIn wsX4_now (va_wsS RX4 82 yX4_requireRange wsX4_requireRange) := goodIn_app (goodIn_of _ (by decide +kernel)) ggX4_now_X4_requireRange
theorem dX4_now_0 : decode cX4_now 0 = .ok (.iload_n 1, 1) := by decide +kernel
theorem dX4_now_1 : decode cX4_now 1 = .ok (.aload_n 0, 1) := by decide +kernel
theorem dX4_now_2 : decode cX4_now 2 = .ok (.getfield 25, 3) := by decide +kernel
theorem dX4_now_5 : decode cX4_now 5 = .ok (.sipush 2100, 3) := by decide +kernel
theorem dX4_now_8 : decode cX4_now 8 = .ok (.invokestatic 82, 3) := by decide +kernel
theorem dX4_now_11 : decode cX4_now 11 = .ok (.aload_n 0, 1) := by decide +kernel
theorem dX4_now_12 : decode cX4_now 12 = .ok (.getfield 25, 3) := by decide +kernel
theorem dX4_now_15 : decode cX4_now 15 = .ok (.istore_n 2, 1) := by decide +kernel
theorem dX4_now_16 : decode cX4_now 16 = .ok (.aload_n 0, 1) := by decide +kernel
theorem dX4_now_17 : decode cX4_now 17 = .ok (.iload_n 1, 1) := by decide +kernel
theorem dX4_now_18 : decode cX4_now 18 = .ok (.putfield 25, 3) := by decide +kernel
theorem dX4_now_21 : decode cX4_now 21 = .ok (.iload_n 2, 1) := by decide +kernel
theorem dX4_now_22 : decode cX4_now 22 = .ok (.ireturn, 1) := by decide +kernel
set_option maxRecDepth 20000 in
theorem ggX4_thing_X4_requireRange : GoodIn wsX4_thing wsX4_requireRange := goodIn_ca (goodIn_r _ [12, 13, 14] (by decide +kernel) (by decide +kernel)) (goodIn_sub (fun _ h => List.mem_cons_of_mem _ (List.mem_append_right _ h)) (by decide +kernel))
set_option maxRecDepth 20000 in
theorem gX4_thing_X4_requireRange : GoodIn wsX4_thing (va_wsS RX4 82 yX4_requireRange wsX4_requireRange) := goodIn_app (goodIn_of _ (by decide +kernel)) ggX4_thing_X4_requireRange
set_option maxRecDepth 20000 in
theorem ggX4_thing_X3_init : GoodIn wsX4_thing wsX3_init := goodIn_r _ [17, 18, 19, 20, 21, 22, 23, 24, 33, 34, 35, 36, 37, 38] (by decide +kernel) (by decide +kernel)
set_option maxRecDepth 20000 in
theorem gX4_thing_X3_init : GoodIn wsX4_thing (wsX3_init) := ggX4_thing_X3_init
theorem dX4_thing_0 : decode cX4_thing 0 = .ok (.iload_n 1, 1) := by decide +kernel
theorem dX4_thing_1 : decode cX4_thing 1 = .ok (.iconst 0, 1) := by decide +kernel
theorem dX4_thing_2 : decode cX4_thing 2 = .ok (.ldc 94, 2) := by decide +kernel
theorem dX4_thing_4 : decode cX4_thing 4 = .ok (.invokestatic 82, 3) := by decide +kernel
theorem dX4_thing_7 : decode cX4_thing 7 = .ok (.iload_n 2, 1) := by decide +kernel
theorem dX4_thing_8 : decode cX4_thing 8 = .ok (.iconst 0, 1) := by decide +kernel
theorem dX4_thing_9 : decode cX4_thing 9 = .ok (.sipush 1000, 3) := by decide +kernel
theorem dX4_thing_12 : decode cX4_thing 12 = .ok (.invokestatic 82, 3) := by decide +kernel
theorem dX4_thing_15 : decode cX4_thing 15 = .ok (.aload_n 0, 1) := by decide +kernel
theorem dX4_thing_16 : decode cX4_thing 16 = .ok (.getfield 95, 3) := by decide +kernel
theorem dX4_thing_19 : decode cX4_thing 19 = .ok (.bipush 10, 2) := by decide +kernel
theorem dX4_thing_21 : decode cX4_thing 21 = .ok (.if_icmp .lt 13, 3) := by decide +kernel
theorem dX4_thing_24 : decode cX4_thing 24 = .ok (.new 42, 3) := by decide +kernel
theorem dX4_thing_27 : decode cX4_thing 27 = .ok (.dup, 1) := by decide +kernel
theorem dX4_thing_28 : decode cX4_thing 28 = .ok (.ldc 98, 2) := by decide +kernel
theorem dX4_thing_30 : decode cX4_thing 30 = .ok (.invokespecial 46, 3) := by decide +kernel
theorem dX4_thing_33 : decode cX4_thing 33 = .ok (.athrow, 1) := by decide +kernel
theorem dX4_thing_34 : decode cX4_thing 34 = .ok (.aload_n 0, 1) := by decide +kernel
theorem dX4_thing_35 : decode cX4_thing 35 = .ok (.getfield 95, 3) := by decide +kernel
theorem dX4_thing_38 : decode cX4_thing 38 = .ok (.istore_n 3, 1) := by decide +kernel
theorem dX4_thing_39 : decode cX4_thing 39 = .ok (.aload_n 0, 1) := by decide +kernel
theorem dX4_thing_40 : decode cX4_thing 40 = .ok (.getfield 31, 3) := by decide +kernel
theorem dX4_thing_43 : decode cX4_thing 43 = .ok (.iload_n 3, 1) := by decide +kernel
theorem dX4_thing_44 : decode cX4_thing 44 = .ok (.new 29, 3) := by decide +kernel
theorem dX4_thing_47 : decode cX4_thing 47 = .ok (.dup, 1) := by decide +kernel
theorem dX4_thing_48 : decode cX4_thing 48 = .ok (.iload_n 1, 1) := by decide +kernel
theorem dX4_thing_49 : decode cX4_thing 49 = .ok (.iload_n 2, 1) := by decide +kernel
theorem dX4_thing_50 : decode cX4_thing 50 = .ok (.invokespecial 100, 3) := by decide +kernel
theorem dX4_thing_53 : decode cX4_thing 53 = .ok (.aastore, 1) := by decide +kernel
theorem dX4_thing_54 : decode cX4_thing 54 = .ok (.aload_n 0, 1) := by decide +kernel
theorem dX4_thing_55 : decode cX4_thing 55 = .ok (.iload_n 3, 1) := by decide +kernel
theorem dX4_thing_56 : decode cX4_thing 56 = .ok (.iconst 1, 1) := by decide +kernel
theorem dX4_thing_57 : decode cX4_thing 57 = .ok (.iadd, 1) := by decide +kernel
theorem dX4_thing_58 : decode cX4_thing 58 = .ok (.putfield 95, 3) := by decide +kernel
theorem dX4_thing_61 : decode cX4_thing 61 = .ok (.iload_n 3, 1) := by decide +kernel
theorem dX4_thing_62 : decode cX4_thing 62 = .ok (.ireturn, 1) := by decide +kernel
set_option maxRecDepth 20000 in
theorem ggX4_mark_X4_thingNumbered : GoodIn wsX4_mark wsX4_thingNumbered := goodIn_ca (goodIn_r _ [6, 7, 8, 9, 21, 22, 23, 24, 25, 26, 27, 28] (by decide +kernel) (by decide +kernel)) (goodIn_sub (fun _ h => List.mem_cons_of_mem _ (List.mem_append_left _ (List.mem_append_right _ h))) (by decide +kernel))
set_option maxRecDepth 20000 in
theorem gX4_mark_X4_thingNumbered : GoodIn wsX4_mark (wsV RX4 101 RX4 yX4_thingNumbered wsX4_thingNumbered) := goodIn_app (goodIn_of _ (by decide +kernel)) ggX4_mark_X4_thingNumbered
set_option maxRecDepth 20000 in
theorem ggX4_mark_X4_requireRange : GoodIn wsX4_mark wsX4_requireRange := goodIn_ca (goodIn_r _ [12, 13, 14] (by decide +kernel) (by decide +kernel)) (goodIn_sub (fun _ h => List.mem_cons_of_mem _ (List.mem_append_right _ h)) (by decide +kernel))
set_option maxRecDepth 20000 in
theorem gX4_mark_X4_requireRange : GoodIn wsX4_mark (va_wsS RX4 82 yX4_requireRange wsX4_requireRange) := goodIn_app (goodIn_of _ (by decide +kernel)) ggX4_mark_X4_requireRange
theorem dX4_mark_0 : decode cX4_mark 0 = .ok (.aload_n 0, 1) := by decide +kernel
theorem dX4_mark_1 : decode cX4_mark 1 = .ok (.iload_n 1, 1) := by decide +kernel
theorem dX4_mark_2 : decode cX4_mark 2 = .ok (.invokevirtual 101, 3) := by decide +kernel
theorem dX4_mark_5 : decode cX4_mark 5 = .ok (.astore 4, 2) := by decide +kernel
theorem dX4_mark_7 : decode cX4_mark 7 = .ok (.iload_n 2, 1) := by decide +kernel
theorem dX4_mark_8 : decode cX4_mark 8 = .ok (.iconst 0, 1) := by decide +kernel
theorem dX4_mark_9 : decode cX4_mark 9 = .ok (.bipush 15, 2) := by decide +kernel
theorem dX4_mark_11 : decode cX4_mark 11 = .ok (.invokestatic 82, 3) := by decide +kernel
theorem dX4_mark_14 : decode cX4_mark 14 = .ok (.iconst 1, 1) := by decide +kernel
theorem dX4_mark_15 : decode cX4_mark 15 = .ok (.iload_n 2, 1) := by decide +kernel
theorem dX4_mark_16 : decode cX4_mark 16 = .ok (.ishl, 1) := by decide +kernel
theorem dX4_mark_17 : decode cX4_mark 17 = .ok (.istore 5, 2) := by decide +kernel
theorem dX4_mark_19 : decode cX4_mark 19 = .ok (.aload 4, 2) := by decide +kernel
theorem dX4_mark_21 : decode cX4_mark 21 = .ok (.getfield 105, 3) := by decide +kernel
theorem dX4_mark_24 : decode cX4_mark 24 = .ok (.iload 5, 2) := by decide +kernel
theorem dX4_mark_26 : decode cX4_mark 26 = .ok (.iand, 1) := by decide +kernel
theorem dX4_mark_27 : decode cX4_mark 27 = .ok (.ifCond .eq 7, 3) := by decide +kernel
theorem dX4_mark_30 : decode cX4_mark 30 = .ok (.iconst 1, 1) := by decide +kernel
theorem dX4_mark_31 : decode cX4_mark 31 = .ok (.goto 4, 3) := by decide +kernel
theorem dX4_mark_34 : decode cX4_mark 34 = .ok (.iconst 0, 1) := by decide +kernel
theorem dX4_mark_35 : decode cX4_mark 35 = .ok (.istore 6, 2) := by decide +kernel
theorem dX4_mark_37 : decode cX4_mark 37 = .ok (.aload 4, 2) := by decide +kernel
theorem dX4_mark_39 : decode cX4_mark 39 = .ok (.iload_n 3, 1) := by decide +kernel
theorem dX4_mark_40 : decode cX4_mark 40 = .ok (.ifCond .eq 14, 3) := by decide +kernel
theorem dX4_mark_43 : decode cX4_mark 43 = .ok (.aload 4, 2) := by decide +kernel
theorem dX4_mark_45 : decode cX4_mark 45 = .ok (.getfield 105, 3) := by decide +kernel
theorem dX4_mark_48 : decode cX4_mark 48 = .ok (.iload 5, 2) := by decide +kernel
theorem dX4_mark_50 : decode cX4_mark 50 = .ok (.ior, 1) := by decide +kernel
theorem dX4_mark_51 : decode cX4_mark 51 = .ok (.goto 13, 3) := by decide +kernel
theorem dX4_mark_54 : decode cX4_mark 54 = .ok (.aload 4, 2) := by decide +kernel
theorem dX4_mark_56 : decode cX4_mark 56 = .ok (.getfield 105, 3) := by decide +kernel
theorem dX4_mark_59 : decode cX4_mark 59 = .ok (.iload 5, 2) := by decide +kernel
theorem dX4_mark_61 : decode cX4_mark 61 = .ok (.iconst (-1), 1) := by decide +kernel
theorem dX4_mark_62 : decode cX4_mark 62 = .ok (.ixor, 1) := by decide +kernel
theorem dX4_mark_63 : decode cX4_mark 63 = .ok (.iand, 1) := by decide +kernel
theorem dX4_mark_64 : decode cX4_mark 64 = .ok (.putfield 105, 3) := by decide +kernel
theorem dX4_mark_67 : decode cX4_mark 67 = .ok (.iload 6, 2) := by decide +kernel
theorem dX4_mark_69 : decode cX4_mark 69 = .ok (.ireturn, 1) := by decide +kernel
set_option maxRecDepth 20000 in
theorem ggX4_station_X4_thingNumbered : GoodIn wsX4_station wsX4_thingNumbered := goodIn_ca (goodIn_r _ [13, 14, 15, 16, 51, 52, 53, 54, 55, 56, 57, 58] (by decide +kernel) (by decide +kernel)) (goodIn_sub (fun _ h => List.mem_cons_of_mem _ (List.mem_append_left _ (List.mem_append_right _ h))) (by decide +kernel))
set_option maxRecDepth 20000 in
theorem gX4_station_X4_thingNumbered : GoodIn wsX4_station (wsV RX4 101 RX4 yX4_thingNumbered wsX4_thingNumbered) := goodIn_app (goodIn_of _ (by decide +kernel)) ggX4_station_X4_thingNumbered
set_option maxRecDepth 20000 in
theorem ggX4_station_X4_personNumbered : GoodIn wsX4_station wsX4_personNumbered := goodIn_ca (goodIn_r _ [20, 14, 15, 21, 51, 52, 53, 54, 55, 56, 57, 58] (by decide +kernel) (by decide +kernel)) (goodIn_sub (fun _ h => List.mem_cons_of_mem _ (List.mem_append_left _ (List.mem_append_right _ h))) (by decide +kernel))
set_option maxRecDepth 20000 in
theorem gX4_station_X4_personNumbered : GoodIn wsX4_station (wsV RX4 52 RX4 yX4_personNumbered wsX4_personNumbered) := goodIn_app (goodIn_of _ (by decide +kernel)) ggX4_station_X4_personNumbered
set_option maxRecDepth 20000 in
theorem ggX4_station_X4_requireLand : GoodIn wsX4_station wsX4_requireLand := goodIn_ca (goodIn_r _ [24, 14, 15] (by decide +kernel) (by decide +kernel)) (goodIn_sub (fun _ h => List.mem_cons_of_mem _ (List.mem_append_left _ (List.mem_append_right _ h))) (by decide +kernel))
set_option maxRecDepth 20000 in
theorem gX4_station_X4_requireLand : GoodIn wsX4_station (va_wsS RX4 79 yX4_requireLand wsX4_requireLand) := goodIn_app (goodIn_of _ (by decide +kernel)) ggX4_station_X4_requireLand
set_option maxRecDepth 20000 in
theorem ggX4_station_X4_requireRange : GoodIn wsX4_station wsX4_requireRange := goodIn_ca (goodIn_r _ [27, 28, 29] (by decide +kernel) (by decide +kernel)) (goodIn_sub (fun _ h => List.mem_cons_of_mem _ (List.mem_append_right _ h)) (by decide +kernel))
set_option maxRecDepth 20000 in
theorem gX4_station_X4_requireRange : GoodIn wsX4_station (va_wsS RX4 82 yX4_requireRange wsX4_requireRange) := goodIn_app (goodIn_of _ (by decide +kernel)) ggX4_station_X4_requireRange
set_option maxRecDepth 20000 in
theorem ggX4_station_X2_init : GoodIn wsX4_station wsX2_init := goodIn_r _ [32, 33, 34, 35, 36, 37, 38, 39, 40, 65, 66, 67, 68, 69, 70, 71, 72, 73] (by decide +kernel) (by decide +kernel)
set_option maxRecDepth 20000 in
theorem gX4_station_X2_init : GoodIn wsX4_station (wsX2_init) := ggX4_station_X2_init
set_option maxRecDepth 20000 in
theorem ggX4_station_X3_putInOrder : GoodIn wsX4_station wsX3_putInOrder := goodIn_r _ [45, 46, 47, 48, 49, 50, 59, 60, 61, 62, 63, 64, 65, 66, 67, 68, 69, 70, 71, 72, 73] (by decide +kernel) (by decide +kernel)
set_option maxRecDepth 20000 in
theorem gX4_station_X3_putInOrder : GoodIn wsX4_station (wsV RX4 122 RX3 yX3_putInOrder wsX3_putInOrder) := goodIn_app (goodIn_of _ (by decide +kernel)) ggX4_station_X3_putInOrder
theorem dX4_station_0 : decode cX4_station 0 = .ok (.aload_n 0, 1) := by decide +kernel
theorem dX4_station_1 : decode cX4_station 1 = .ok (.iload_n 1, 1) := by decide +kernel
theorem dX4_station_2 : decode cX4_station 2 = .ok (.invokevirtual 101, 3) := by decide +kernel
theorem dX4_station_5 : decode cX4_station 5 = .ok (.astore 6, 2) := by decide +kernel
theorem dX4_station_7 : decode cX4_station 7 = .ok (.aload_n 0, 1) := by decide +kernel
theorem dX4_station_8 : decode cX4_station 8 = .ok (.iload_n 2, 1) := by decide +kernel
theorem dX4_station_9 : decode cX4_station 9 = .ok (.invokevirtual 52, 3) := by decide +kernel
theorem dX4_station_12 : decode cX4_station 12 = .ok (.astore 7, 2) := by decide +kernel
theorem dX4_station_14 : decode cX4_station 14 = .ok (.iload 4, 2) := by decide +kernel
theorem dX4_station_16 : decode cX4_station 16 = .ok (.invokestatic 79, 3) := by decide +kernel
theorem dX4_station_19 : decode cX4_station 19 = .ok (.iload_n 3, 1) := by decide +kernel
theorem dX4_station_20 : decode cX4_station 20 = .ok (.iconst 0, 1) := by decide +kernel
theorem dX4_station_21 : decode cX4_station 21 = .ok (.iconst 5, 1) := by decide +kernel
theorem dX4_station_22 : decode cX4_station 22 = .ok (.invokestatic 82, 3) := by decide +kernel
theorem dX4_station_25 : decode cX4_station 25 = .ok (.iload 5, 2) := by decide +kernel
theorem dX4_station_27 : decode cX4_station 27 = .ok (.sipush 1900, 3) := by decide +kernel
theorem dX4_station_30 : decode cX4_station 30 = .ok (.aload_n 0, 1) := by decide +kernel
theorem dX4_station_31 : decode cX4_station 31 = .ok (.getfield 25, 3) := by decide +kernel
theorem dX4_station_34 : decode cX4_station 34 = .ok (.invokestatic 82, 3) := by decide +kernel
theorem dX4_station_37 : decode cX4_station 37 = .ok (.aload 6, 2) := by decide +kernel
theorem dX4_station_39 : decode cX4_station 39 = .ok (.getfield 108, 3) := by decide +kernel
theorem dX4_station_42 : decode cX4_station 42 = .ok (.istore 8, 2) := by decide +kernel
theorem dX4_station_44 : decode cX4_station 44 = .ok (.iload 8, 2) := by decide +kernel
theorem dX4_station_46 : decode cX4_station 46 = .ok (.bipush 8, 2) := by decide +kernel
theorem dX4_station_48 : decode cX4_station 48 = .ok (.if_icmp .lt 13, 3) := by decide +kernel
theorem dX4_station_51 : decode cX4_station 51 = .ok (.new 42, 3) := by decide +kernel
theorem dX4_station_54 : decode cX4_station 54 = .ok (.dup, 1) := by decide +kernel
theorem dX4_station_55 : decode cX4_station 55 = .ok (.ldc 111, 2) := by decide +kernel
theorem dX4_station_57 : decode cX4_station 57 = .ok (.invokespecial 46, 3) := by decide +kernel
theorem dX4_station_60 : decode cX4_station 60 = .ok (.athrow, 1) := by decide +kernel
theorem dX4_station_61 : decode cX4_station 61 = .ok (.new 113, 3) := by decide +kernel
theorem dX4_station_64 : decode cX4_station 64 = .ok (.dup, 1) := by decide +kernel
theorem dX4_station_65 : decode cX4_station 65 = .ok (.iload 8, 2) := by decide +kernel
theorem dX4_station_67 : decode cX4_station 67 = .ok (.aload 7, 2) := by decide +kernel
theorem dX4_station_69 : decode cX4_station 69 = .ok (.iload_n 3, 1) := by decide +kernel
theorem dX4_station_70 : decode cX4_station 70 = .ok (.iload 4, 2) := by decide +kernel
theorem dX4_station_72 : decode cX4_station 72 = .ok (.iload 5, 2) := by decide +kernel
theorem dX4_station_74 : decode cX4_station 74 = .ok (.invokespecial 115, 3) := by decide +kernel
theorem dX4_station_77 : decode cX4_station 77 = .ok (.astore 9, 2) := by decide +kernel
theorem dX4_station_79 : decode cX4_station 79 = .ok (.aload 6, 2) := by decide +kernel
theorem dX4_station_81 : decode cX4_station 81 = .ok (.getfield 118, 3) := by decide +kernel
theorem dX4_station_84 : decode cX4_station 84 = .ok (.iload 8, 2) := by decide +kernel
theorem dX4_station_86 : decode cX4_station 86 = .ok (.aload 9, 2) := by decide +kernel
theorem dX4_station_88 : decode cX4_station 88 = .ok (.aastore, 1) := by decide +kernel
theorem dX4_station_89 : decode cX4_station 89 = .ok (.aload 6, 2) := by decide +kernel
theorem dX4_station_91 : decode cX4_station 91 = .ok (.iload 8, 2) := by decide +kernel
theorem dX4_station_93 : decode cX4_station 93 = .ok (.iconst 1, 1) := by decide +kernel
theorem dX4_station_94 : decode cX4_station 94 = .ok (.iadd, 1) := by decide +kernel
theorem dX4_station_95 : decode cX4_station 95 = .ok (.putfield 108, 3) := by decide +kernel
theorem dX4_station_98 : decode cX4_station 98 = .ok (.aload 6, 2) := by decide +kernel
theorem dX4_station_100 : decode cX4_station 100 = .ok (.aload 9, 2) := by decide +kernel
theorem dX4_station_102 : decode cX4_station 102 = .ok (.invokevirtual 122, 3) := by decide +kernel
theorem dX4_station_105 : decode cX4_station 105 = .ok (.iload 8, 2) := by decide +kernel
theorem dX4_station_107 : decode cX4_station 107 = .ok (.ireturn, 1) := by decide +kernel
set_option maxRecDepth 20000 in
theorem ggX4_rebut_X4_stationNumbered : GoodIn wsX4_rebut wsX4_stationNumbered := goodIn_ca (goodIn_r _ [9, 10, 11, 12, 13, 14, 15, 8, 16, 17, 27, 28, 29, 30, 31, 32, 33, 34, 35, 36, 37, 38, 39, 40] (by decide +kernel) (by decide +kernel)) (goodIn_sub (fun _ h => List.mem_cons_of_mem _ (List.mem_append_right _ h)) (by decide +kernel))
set_option maxRecDepth 20000 in
theorem gX4_rebut_X4_stationNumbered : GoodIn wsX4_rebut (wsV RX4 126 RX4 yX4_stationNumbered wsX4_stationNumbered) := goodIn_app (goodIn_of _ (by decide +kernel)) ggX4_rebut_X4_stationNumbered
theorem dX4_rebut_0 : decode cX4_rebut 0 = .ok (.aload_n 0, 1) := by decide +kernel
theorem dX4_rebut_1 : decode cX4_rebut 1 = .ok (.iload_n 1, 1) := by decide +kernel
theorem dX4_rebut_2 : decode cX4_rebut 2 = .ok (.iload_n 2, 1) := by decide +kernel
theorem dX4_rebut_3 : decode cX4_rebut 3 = .ok (.invokevirtual 126, 3) := by decide +kernel
theorem dX4_rebut_6 : decode cX4_rebut 6 = .ok (.astore 4, 2) := by decide +kernel
theorem dX4_rebut_8 : decode cX4_rebut 8 = .ok (.aload 4, 2) := by decide +kernel
theorem dX4_rebut_10 : decode cX4_rebut 10 = .ok (.getfield 130, 3) := by decide +kernel
theorem dX4_rebut_13 : decode cX4_rebut 13 = .ok (.ifCond .eq 13, 3) := by decide +kernel
theorem dX4_rebut_16 : decode cX4_rebut 16 = .ok (.new 62, 3) := by decide +kernel
theorem dX4_rebut_19 : decode cX4_rebut 19 = .ok (.dup, 1) := by decide +kernel
theorem dX4_rebut_20 : decode cX4_rebut 20 = .ok (.ldc 133, 2) := by decide +kernel
theorem dX4_rebut_22 : decode cX4_rebut 22 = .ok (.invokespecial 66, 3) := by decide +kernel
theorem dX4_rebut_25 : decode cX4_rebut 25 = .ok (.athrow, 1) := by decide +kernel
theorem dX4_rebut_26 : decode cX4_rebut 26 = .ok (.aload 4, 2) := by decide +kernel
theorem dX4_rebut_28 : decode cX4_rebut 28 = .ok (.getfield 135, 3) := by decide +kernel
theorem dX4_rebut_31 : decode cX4_rebut 31 = .ok (.istore 5, 2) := by decide +kernel
theorem dX4_rebut_33 : decode cX4_rebut 33 = .ok (.aload 4, 2) := by decide +kernel
theorem dX4_rebut_35 : decode cX4_rebut 35 = .ok (.iload_n 3, 1) := by decide +kernel
theorem dX4_rebut_36 : decode cX4_rebut 36 = .ok (.putfield 135, 3) := by decide +kernel
theorem dX4_rebut_39 : decode cX4_rebut 39 = .ok (.iload 5, 2) := by decide +kernel
theorem dX4_rebut_41 : decode cX4_rebut 41 = .ok (.ireturn, 1) := by decide +kernel
set_option maxRecDepth 20000 in
theorem ggX4_settle_X4_stationNumbered : GoodIn wsX4_settle wsX4_stationNumbered := goodIn_ca (goodIn_r _ [6, 7, 8, 9, 10, 11, 12, 5, 13, 14, 24, 25, 26, 27, 28, 29, 30, 31, 32, 33, 34, 35, 36, 37] (by decide +kernel) (by decide +kernel)) (goodIn_sub (fun _ h => List.mem_cons_of_mem _ (List.mem_append_right _ h)) (by decide +kernel))
set_option maxRecDepth 20000 in
theorem gX4_settle_X4_stationNumbered : GoodIn wsX4_settle (wsV RX4 126 RX4 yX4_stationNumbered wsX4_stationNumbered) := goodIn_app (goodIn_of _ (by decide +kernel)) ggX4_settle_X4_stationNumbered
theorem dX4_settle_0 : decode cX4_settle 0 = .ok (.aload_n 0, 1) := by decide +kernel
theorem dX4_settle_1 : decode cX4_settle 1 = .ok (.iload_n 1, 1) := by decide +kernel
theorem dX4_settle_2 : decode cX4_settle 2 = .ok (.iload_n 2, 1) := by decide +kernel
theorem dX4_settle_3 : decode cX4_settle 3 = .ok (.invokevirtual 126, 3) := by decide +kernel
theorem dX4_settle_6 : decode cX4_settle 6 = .ok (.astore 4, 2) := by decide +kernel
theorem dX4_settle_8 : decode cX4_settle 8 = .ok (.aload 4, 2) := by decide +kernel
theorem dX4_settle_10 : decode cX4_settle 10 = .ok (.getfield 138, 3) := by decide +kernel
theorem dX4_settle_13 : decode cX4_settle 13 = .ok (.istore 5, 2) := by decide +kernel
theorem dX4_settle_15 : decode cX4_settle 15 = .ok (.aload 4, 2) := by decide +kernel
theorem dX4_settle_17 : decode cX4_settle 17 = .ok (.iload_n 3, 1) := by decide +kernel
theorem dX4_settle_18 : decode cX4_settle 18 = .ok (.putfield 138, 3) := by decide +kernel
theorem dX4_settle_21 : decode cX4_settle 21 = .ok (.iload 5, 2) := by decide +kernel
theorem dX4_settle_23 : decode cX4_settle 23 = .ok (.ireturn, 1) := by decide +kernel
set_option maxRecDepth 20000 in
theorem ggX4_isPersecuted_X4_personNumbered : GoodIn wsX4_isPersecuted wsX4_personNumbered := goodIn_ca (goodIn_r _ [5, 6, 7, 8, 32, 33, 34, 35, 36, 37, 38, 39] (by decide +kernel) (by decide +kernel)) (goodIn_sub (fun _ h => List.mem_cons_of_mem _ (List.mem_append_left _ (List.mem_append_right _ h))) (by decide +kernel))
set_option maxRecDepth 20000 in
theorem gX4_isPersecuted_X4_personNumbered : GoodIn wsX4_isPersecuted (wsV RX4 52 RX4 yX4_personNumbered wsX4_personNumbered) := goodIn_app (goodIn_of _ (by decide +kernel)) ggX4_isPersecuted_X4_personNumbered
set_option maxRecDepth 20000 in
theorem ggX4_isPersecuted_X4_requireLand : GoodIn wsX4_isPersecuted wsX4_requireLand := goodIn_ca (goodIn_r _ [11, 6, 7] (by decide +kernel) (by decide +kernel)) (goodIn_sub (fun _ h => List.mem_cons_of_mem _ (List.mem_append_left _ (List.mem_append_right _ h))) (by decide +kernel))
set_option maxRecDepth 20000 in
theorem gX4_isPersecuted_X4_requireLand : GoodIn wsX4_isPersecuted (va_wsS RX4 79 yX4_requireLand wsX4_requireLand) := goodIn_app (goodIn_of _ (by decide +kernel)) ggX4_isPersecuted_X4_requireLand
set_option maxRecDepth 20000 in
theorem ggX4_isPersecuted_X4_requireRange : GoodIn wsX4_isPersecuted wsX4_requireRange := goodIn_ca (goodIn_r _ [14, 15, 16] (by decide +kernel) (by decide +kernel)) (goodIn_sub (fun _ h => List.mem_cons_of_mem _ (List.mem_append_right _ h)) (by decide +kernel))
set_option maxRecDepth 20000 in
theorem gX4_isPersecuted_X4_requireRange : GoodIn wsX4_isPersecuted (va_wsS RX4 82 yX4_requireRange wsX4_requireRange) := goodIn_app (goodIn_of _ (by decide +kernel)) ggX4_isPersecuted_X4_requireRange
set_option maxRecDepth 20000 in
theorem ggX4_isPersecuted_X4_isDarkFor : GoodIn wsX4_isPersecuted wsX4_isDarkFor := goodIn_r _ [20, 21, 22, 23, 24, 25, 26, 27, 28, 29, 30, 31, 32, 33, 34, 35, 36, 37, 38, 39, 40, 41, 42, 43, 44, 45, 46, 47, 48, 49] (by decide +kernel) (by decide +kernel)
set_option maxRecDepth 20000 in
theorem gX4_isPersecuted_X4_isDarkFor : GoodIn wsX4_isPersecuted (wsV RX4 141 RX4 yX4_isDarkFor wsX4_isDarkFor) := goodIn_app (goodIn_of _ (by decide +kernel)) ggX4_isPersecuted_X4_isDarkFor
theorem dX4_isPersecuted_0 : decode cX4_isPersecuted 0 = .ok (.aload_n 0, 1) := by decide +kernel
theorem dX4_isPersecuted_1 : decode cX4_isPersecuted 1 = .ok (.iload_n 1, 1) := by decide +kernel
theorem dX4_isPersecuted_2 : decode cX4_isPersecuted 2 = .ok (.invokevirtual 52, 3) := by decide +kernel
theorem dX4_isPersecuted_5 : decode cX4_isPersecuted 5 = .ok (.astore 4, 2) := by decide +kernel
theorem dX4_isPersecuted_7 : decode cX4_isPersecuted 7 = .ok (.iload_n 2, 1) := by decide +kernel
theorem dX4_isPersecuted_8 : decode cX4_isPersecuted 8 = .ok (.invokestatic 79, 3) := by decide +kernel
theorem dX4_isPersecuted_11 : decode cX4_isPersecuted 11 = .ok (.iload_n 3, 1) := by decide +kernel
theorem dX4_isPersecuted_12 : decode cX4_isPersecuted 12 = .ok (.sipush 1900, 3) := by decide +kernel
theorem dX4_isPersecuted_15 : decode cX4_isPersecuted 15 = .ok (.sipush 2100, 3) := by decide +kernel
theorem dX4_isPersecuted_18 : decode cX4_isPersecuted 18 = .ok (.invokestatic 82, 3) := by decide +kernel
theorem dX4_isPersecuted_21 : decode cX4_isPersecuted 21 = .ok (.aload_n 0, 1) := by decide +kernel
theorem dX4_isPersecuted_22 : decode cX4_isPersecuted 22 = .ok (.aload 4, 2) := by decide +kernel
theorem dX4_isPersecuted_24 : decode cX4_isPersecuted 24 = .ok (.iload_n 2, 1) := by decide +kernel
theorem dX4_isPersecuted_25 : decode cX4_isPersecuted 25 = .ok (.iload_n 3, 1) := by decide +kernel
theorem dX4_isPersecuted_26 : decode cX4_isPersecuted 26 = .ok (.invokevirtual 141, 3) := by decide +kernel
theorem dX4_isPersecuted_29 : decode cX4_isPersecuted 29 = .ok (.ireturn, 1) := by decide +kernel
set_option maxRecDepth 20000 in
theorem ggX4_heirOf_X4_personNumbered : GoodIn wsX4_heirOf wsX4_personNumbered := goodIn_ca (goodIn_r _ [5, 6, 7, 8, 21, 22, 23, 24, 25, 26, 27, 28] (by decide +kernel) (by decide +kernel)) (goodIn_sub (fun _ h => List.mem_cons_of_mem _ (List.mem_append_right _ h)) (by decide +kernel))
set_option maxRecDepth 20000 in
theorem gX4_heirOf_X4_personNumbered : GoodIn wsX4_heirOf (wsV RX4 52 RX4 yX4_personNumbered wsX4_personNumbered) := goodIn_app (goodIn_of _ (by decide +kernel)) ggX4_heirOf_X4_personNumbered
set_option maxRecDepth 20000 in
theorem ggX4_heirOf_X4_livingHeir : GoodIn wsX4_heirOf wsX4_livingHeir := goodIn_r _ [11, 12, 13, 14, 4, 15, 16, 9, 10, 29, 30, 31, 32, 33, 34] (by decide +kernel) (by decide +kernel)
set_option maxRecDepth 20000 in
theorem gX4_heirOf_X4_livingHeir : GoodIn wsX4_heirOf (va_wsS RX4 145 yX4_livingHeir wsX4_livingHeir) := goodIn_app (goodIn_of _ (by decide +kernel)) ggX4_heirOf_X4_livingHeir
set_option maxRecDepth 20000 in
theorem ggX4_heirOf_X4_numberOf : GoodIn wsX4_heirOf wsX4_numberOf := goodIn_r _ [19, 20, 29, 30, 31, 32, 33, 34] (by decide +kernel) (by decide +kernel)
set_option maxRecDepth 20000 in
theorem gX4_heirOf_X4_numberOf : GoodIn wsX4_heirOf (va_wsS RX4 149 yX4_numberOf wsX4_numberOf) := goodIn_app (goodIn_of _ (by decide +kernel)) ggX4_heirOf_X4_numberOf
theorem dX4_heirOf_0 : decode cX4_heirOf 0 = .ok (.aload_n 0, 1) := by decide +kernel
theorem dX4_heirOf_1 : decode cX4_heirOf 1 = .ok (.iload_n 1, 1) := by decide +kernel
theorem dX4_heirOf_2 : decode cX4_heirOf 2 = .ok (.invokevirtual 52, 3) := by decide +kernel
theorem dX4_heirOf_5 : decode cX4_heirOf 5 = .ok (.iconst 3, 1) := by decide +kernel
theorem dX4_heirOf_6 : decode cX4_heirOf 6 = .ok (.invokestatic 145, 3) := by decide +kernel
theorem dX4_heirOf_9 : decode cX4_heirOf 9 = .ok (.invokestatic 149, 3) := by decide +kernel
theorem dX4_heirOf_12 : decode cX4_heirOf 12 = .ok (.ireturn, 1) := by decide +kernel
set_option maxRecDepth 20000 in
theorem ggX4_likeness_X4_thingNumbered : GoodIn wsX4_likeness wsX4_thingNumbered := goodIn_ca (goodIn_r _ [5, 6, 7, 8, 27, 28, 29, 30, 31, 32, 33, 34] (by decide +kernel) (by decide +kernel)) (goodIn_sub (fun _ h => List.mem_cons_of_mem _ (List.mem_append_right _ h)) (by decide +kernel))
set_option maxRecDepth 20000 in
theorem gX4_likeness_X4_thingNumbered : GoodIn wsX4_likeness (wsV RX4 101 RX4 yX4_thingNumbered wsX4_thingNumbered) := goodIn_app (goodIn_of _ (by decide +kernel)) ggX4_likeness_X4_thingNumbered
set_option maxRecDepth 20000 in
theorem ggX4_likeness_X3_likenessTo : GoodIn wsX4_likeness wsX3_likenessTo := goodIn_r _ [13, 14, 15, 16, 17, 18, 19, 20, 21, 22, 23, 24, 25, 26, 35, 36, 37, 38, 39, 40] (by decide +kernel) (by decide +kernel)
set_option maxRecDepth 20000 in
theorem gX4_likeness_X3_likenessTo : GoodIn wsX4_likeness (wsV RX4 153 RX3 yX3_likenessTo wsX3_likenessTo) := goodIn_app (goodIn_of _ (by decide +kernel)) ggX4_likeness_X3_likenessTo
theorem dX4_likeness_0 : decode cX4_likeness 0 = .ok (.aload_n 0, 1) := by decide +kernel
theorem dX4_likeness_1 : decode cX4_likeness 1 = .ok (.iload_n 1, 1) := by decide +kernel
theorem dX4_likeness_2 : decode cX4_likeness 2 = .ok (.invokevirtual 101, 3) := by decide +kernel
theorem dX4_likeness_5 : decode cX4_likeness 5 = .ok (.aload_n 0, 1) := by decide +kernel
theorem dX4_likeness_6 : decode cX4_likeness 6 = .ok (.iload_n 2, 1) := by decide +kernel
theorem dX4_likeness_7 : decode cX4_likeness 7 = .ok (.invokevirtual 101, 3) := by decide +kernel
theorem dX4_likeness_10 : decode cX4_likeness 10 = .ok (.invokevirtual 153, 3) := by decide +kernel
theorem dX4_likeness_13 : decode cX4_likeness 13 = .ok (.ireturn, 1) := by decide +kernel
set_option maxRecDepth 20000 in
theorem ggX4_likest_X4_thingNumbered : GoodIn wsX4_likest wsX4_thingNumbered := goodIn_ca (goodIn_r _ [6, 7, 8, 1, 27, 28, 29, 30, 31, 32, 33, 34] (by decide +kernel) (by decide +kernel)) (goodIn_sub (fun _ h => List.mem_cons_of_mem _ (List.mem_append_right _ h)) (by decide +kernel))
set_option maxRecDepth 20000 in
theorem gX4_likest_X4_thingNumbered : GoodIn wsX4_likest (wsV RX4 101 RX4 yX4_thingNumbered wsX4_thingNumbered) := goodIn_app (goodIn_of _ (by decide +kernel)) ggX4_likest_X4_thingNumbered
set_option maxRecDepth 20000 in
theorem ggX4_likest_X3_likenessTo : GoodIn wsX4_likest wsX3_likenessTo := goodIn_r _ [13, 14, 15, 16, 17, 18, 19, 20, 21, 22, 23, 24, 25, 26, 35, 36, 37, 38, 39, 40] (by decide +kernel) (by decide +kernel)
set_option maxRecDepth 20000 in
theorem gX4_likest_X3_likenessTo : GoodIn wsX4_likest (wsV RX4 153 RX3 yX3_likenessTo wsX3_likenessTo) := goodIn_app (goodIn_of _ (by decide +kernel)) ggX4_likest_X3_likenessTo
theorem dX4_likest_0 : decode cX4_likest 0 = .ok (.aload_n 0, 1) := by decide +kernel
theorem dX4_likest_1 : decode cX4_likest 1 = .ok (.iload_n 1, 1) := by decide +kernel
theorem dX4_likest_2 : decode cX4_likest 2 = .ok (.invokevirtual 101, 3) := by decide +kernel
theorem dX4_likest_5 : decode cX4_likest 5 = .ok (.astore_n 2, 1) := by decide +kernel
theorem dX4_likest_6 : decode cX4_likest 6 = .ok (.iconst (-1), 1) := by decide +kernel
theorem dX4_likest_7 : decode cX4_likest 7 = .ok (.istore_n 3, 1) := by decide +kernel
theorem dX4_likest_8 : decode cX4_likest 8 = .ok (.iconst 0, 1) := by decide +kernel
theorem dX4_likest_9 : decode cX4_likest 9 = .ok (.istore 4, 2) := by decide +kernel
theorem dX4_likest_11 : decode cX4_likest 11 = .ok (.iconst 0, 1) := by decide +kernel
theorem dX4_likest_12 : decode cX4_likest 12 = .ok (.istore 5, 2) := by decide +kernel
theorem dX4_likest_14 : decode cX4_likest 14 = .ok (.iload 5, 2) := by decide +kernel
theorem dX4_likest_16 : decode cX4_likest 16 = .ok (.bipush 10, 2) := by decide +kernel
theorem dX4_likest_18 : decode cX4_likest 18 = .ok (.if_icmp .ge 59, 3) := by decide +kernel
theorem dX4_likest_21 : decode cX4_likest 21 = .ok (.aload_n 0, 1) := by decide +kernel
theorem dX4_likest_22 : decode cX4_likest 22 = .ok (.getfield 31, 3) := by decide +kernel
theorem dX4_likest_25 : decode cX4_likest 25 = .ok (.iload 5, 2) := by decide +kernel
theorem dX4_likest_27 : decode cX4_likest 27 = .ok (.aaload, 1) := by decide +kernel
theorem dX4_likest_28 : decode cX4_likest 28 = .ok (.astore 6, 2) := by decide +kernel
theorem dX4_likest_30 : decode cX4_likest 30 = .ok (.aload 6, 2) := by decide +kernel
theorem dX4_likest_32 : decode cX4_likest 32 = .ok (.ifnull 39, 3) := by decide +kernel
theorem dX4_likest_35 : decode cX4_likest 35 = .ok (.aload 6, 2) := by decide +kernel
theorem dX4_likest_37 : decode cX4_likest 37 = .ok (.aload_n 2, 1) := by decide +kernel
theorem dX4_likest_38 : decode cX4_likest 38 = .ok (.if_acmp .ne 6, 3) := by decide +kernel
theorem dX4_likest_41 : decode cX4_likest 41 = .ok (.goto 30, 3) := by decide +kernel
theorem dX4_likest_44 : decode cX4_likest 44 = .ok (.aload_n 2, 1) := by decide +kernel
theorem dX4_likest_45 : decode cX4_likest 45 = .ok (.aload 6, 2) := by decide +kernel
theorem dX4_likest_47 : decode cX4_likest 47 = .ok (.invokevirtual 153, 3) := by decide +kernel
theorem dX4_likest_50 : decode cX4_likest 50 = .ok (.istore 7, 2) := by decide +kernel
theorem dX4_likest_52 : decode cX4_likest 52 = .ok (.iload_n 3, 1) := by decide +kernel
theorem dX4_likest_53 : decode cX4_likest 53 = .ok (.iconst (-1), 1) := by decide +kernel
theorem dX4_likest_54 : decode cX4_likest 54 = .ok (.if_icmp .eq 10, 3) := by decide +kernel
theorem dX4_likest_57 : decode cX4_likest 57 = .ok (.iload 7, 2) := by decide +kernel
theorem dX4_likest_59 : decode cX4_likest 59 = .ok (.iload 4, 2) := by decide +kernel
theorem dX4_likest_61 : decode cX4_likest 61 = .ok (.if_icmp .le 10, 3) := by decide +kernel
theorem dX4_likest_64 : decode cX4_likest 64 = .ok (.iload 5, 2) := by decide +kernel
theorem dX4_likest_66 : decode cX4_likest 66 = .ok (.istore_n 3, 1) := by decide +kernel
theorem dX4_likest_67 : decode cX4_likest 67 = .ok (.iload 7, 2) := by decide +kernel
theorem dX4_likest_69 : decode cX4_likest 69 = .ok (.istore 4, 2) := by decide +kernel
theorem dX4_likest_71 : decode cX4_likest 71 = .ok (.iinc 5 1, 3) := by decide +kernel
theorem dX4_likest_74 : decode cX4_likest 74 = .ok (.goto (-60), 3) := by decide +kernel
theorem dX4_likest_77 : decode cX4_likest 77 = .ok (.iload_n 3, 1) := by decide +kernel
theorem dX4_likest_78 : decode cX4_likest 78 = .ok (.ireturn, 1) := by decide +kernel
set_option maxRecDepth 20000 in
theorem ggX4_stationAt_X4_thingNumbered : GoodIn wsX4_stationAt wsX4_thingNumbered := goodIn_ca (goodIn_r _ [10, 1, 2, 11, 27, 28, 29, 30, 31, 32, 33, 34] (by decide +kernel) (by decide +kernel)) (goodIn_sub (fun _ h => List.mem_cons_of_mem _ (List.mem_append_right _ h)) (by decide +kernel))
set_option maxRecDepth 20000 in
theorem gX4_stationAt_X4_thingNumbered : GoodIn wsX4_stationAt (wsV RX4 101 RX4 yX4_thingNumbered wsX4_thingNumbered) := goodIn_app (goodIn_of _ (by decide +kernel)) ggX4_stationAt_X4_thingNumbered
theorem dX4_stationAt_0 : decode cX4_stationAt 0 = .ok (.aload_n 0, 1) := by decide +kernel
theorem dX4_stationAt_1 : decode cX4_stationAt 1 = .ok (.iload_n 1, 1) := by decide +kernel
theorem dX4_stationAt_2 : decode cX4_stationAt 2 = .ok (.invokevirtual 101, 3) := by decide +kernel
theorem dX4_stationAt_5 : decode cX4_stationAt 5 = .ok (.astore_n 3, 1) := by decide +kernel
theorem dX4_stationAt_6 : decode cX4_stationAt 6 = .ok (.iload_n 2, 1) := by decide +kernel
theorem dX4_stationAt_7 : decode cX4_stationAt 7 = .ok (.ifCond .ge 13, 3) := by decide +kernel
theorem dX4_stationAt_10 : decode cX4_stationAt 10 = .ok (.new 157, 3) := by decide +kernel
theorem dX4_stationAt_13 : decode cX4_stationAt 13 = .ok (.dup, 1) := by decide +kernel
theorem dX4_stationAt_14 : decode cX4_stationAt 14 = .ok (.ldc 159, 2) := by decide +kernel
theorem dX4_stationAt_16 : decode cX4_stationAt 16 = .ok (.invokespecial 161, 3) := by decide +kernel
theorem dX4_stationAt_19 : decode cX4_stationAt 19 = .ok (.athrow, 1) := by decide +kernel
theorem dX4_stationAt_20 : decode cX4_stationAt 20 = .ok (.aload_n 3, 1) := by decide +kernel
theorem dX4_stationAt_21 : decode cX4_stationAt 21 = .ok (.getfield 162, 3) := by decide +kernel
theorem dX4_stationAt_24 : decode cX4_stationAt 24 = .ok (.astore 4, 2) := by decide +kernel
theorem dX4_stationAt_26 : decode cX4_stationAt 26 = .ok (.iconst 0, 1) := by decide +kernel
theorem dX4_stationAt_27 : decode cX4_stationAt 27 = .ok (.istore 5, 2) := by decide +kernel
theorem dX4_stationAt_29 : decode cX4_stationAt 29 = .ok (.iload 5, 2) := by decide +kernel
theorem dX4_stationAt_31 : decode cX4_stationAt 31 = .ok (.iload_n 2, 1) := by decide +kernel
theorem dX4_stationAt_32 : decode cX4_stationAt 32 = .ok (.if_icmp .ge 21, 3) := by decide +kernel
theorem dX4_stationAt_35 : decode cX4_stationAt 35 = .ok (.aload 4, 2) := by decide +kernel
theorem dX4_stationAt_37 : decode cX4_stationAt 37 = .ok (.ifnull 16, 3) := by decide +kernel
theorem dX4_stationAt_40 : decode cX4_stationAt 40 = .ok (.aload 4, 2) := by decide +kernel
theorem dX4_stationAt_42 : decode cX4_stationAt 42 = .ok (.getfield 166, 3) := by decide +kernel
theorem dX4_stationAt_45 : decode cX4_stationAt 45 = .ok (.astore 4, 2) := by decide +kernel
theorem dX4_stationAt_47 : decode cX4_stationAt 47 = .ok (.iinc 5 1, 3) := by decide +kernel
theorem dX4_stationAt_50 : decode cX4_stationAt 50 = .ok (.goto (-21), 3) := by decide +kernel
theorem dX4_stationAt_53 : decode cX4_stationAt 53 = .ok (.aload 4, 2) := by decide +kernel
theorem dX4_stationAt_55 : decode cX4_stationAt 55 = .ok (.ifnonnull 7, 3) := by decide +kernel
theorem dX4_stationAt_58 : decode cX4_stationAt 58 = .ok (.iconst (-1), 1) := by decide +kernel
theorem dX4_stationAt_59 : decode cX4_stationAt 59 = .ok (.goto 8, 3) := by decide +kernel
theorem dX4_stationAt_62 : decode cX4_stationAt 62 = .ok (.aload 4, 2) := by decide +kernel
theorem dX4_stationAt_64 : decode cX4_stationAt 64 = .ok (.getfield 169, 3) := by decide +kernel
theorem dX4_stationAt_67 : decode cX4_stationAt 67 = .ok (.ireturn, 1) := by decide +kernel
set_option maxRecDepth 20000 in
theorem ggX4_isLoss_X4_stationNumbered : GoodIn wsX4_isLoss wsX4_stationNumbered := goodIn_ca (goodIn_r _ [5, 6, 7, 8, 9, 10, 11, 4, 12, 13, 39, 40, 41, 42, 43, 44, 45, 46, 47, 48, 49, 50, 51, 52] (by decide +kernel) (by decide +kernel)) (goodIn_sub (fun _ h => List.mem_cons_of_mem _ (List.mem_append_right _ h)) (by decide +kernel))
set_option maxRecDepth 20000 in
theorem gX4_isLoss_X4_stationNumbered : GoodIn wsX4_isLoss (wsV RX4 126 RX4 yX4_stationNumbered wsX4_stationNumbered) := goodIn_app (goodIn_of _ (by decide +kernel)) ggX4_isLoss_X4_stationNumbered
set_option maxRecDepth 20000 in
theorem ggX4_isLoss_X4_takesAway : GoodIn wsX4_isLoss wsX4_takesAway := goodIn_r _ [17, 18, 19, 20, 21, 22, 23, 24, 25, 26, 4, 27, 28, 29, 30, 31, 32, 33, 34, 35, 36, 37, 38, 53, 54, 55, 56, 57, 58, 59, 60, 61, 45, 46, 47, 48, 49, 50, 51, 52, 62, 63, 64, 65, 66, 67, 68, 69, 70, 71] (by decide +kernel) (by decide +kernel)
set_option maxRecDepth 20000 in
theorem gX4_isLoss_X4_takesAway : GoodIn wsX4_isLoss (wsV RX4 172 RX4 yX4_takesAway wsX4_takesAway) := goodIn_app (goodIn_of _ (by decide +kernel)) ggX4_isLoss_X4_takesAway
theorem dX4_isLoss_0 : decode cX4_isLoss 0 = .ok (.aload_n 0, 1) := by decide +kernel
theorem dX4_isLoss_1 : decode cX4_isLoss 1 = .ok (.aload_n 0, 1) := by decide +kernel
theorem dX4_isLoss_2 : decode cX4_isLoss 2 = .ok (.iload_n 1, 1) := by decide +kernel
theorem dX4_isLoss_3 : decode cX4_isLoss 3 = .ok (.iload_n 2, 1) := by decide +kernel
theorem dX4_isLoss_4 : decode cX4_isLoss 4 = .ok (.invokevirtual 126, 3) := by decide +kernel
theorem dX4_isLoss_7 : decode cX4_isLoss 7 = .ok (.invokevirtual 172, 3) := by decide +kernel
theorem dX4_isLoss_10 : decode cX4_isLoss 10 = .ok (.ireturn, 1) := by decide +kernel
set_option maxRecDepth 20000 in
theorem ggX4_holder_X4_thingNumbered : GoodIn wsX4_holder wsX4_thingNumbered := goodIn_ca (goodIn_r _ [5, 6, 7, 8, 20, 21, 22, 23, 24, 25, 26, 27] (by decide +kernel) (by decide +kernel)) (goodIn_sub (fun _ h => List.mem_cons_of_mem _ (List.mem_append_right _ h)) (by decide +kernel))
set_option maxRecDepth 20000 in
theorem gX4_holder_X4_thingNumbered : GoodIn wsX4_holder (wsV RX4 101 RX4 yX4_thingNumbered wsX4_thingNumbered) := goodIn_app (goodIn_of _ (by decide +kernel)) ggX4_holder_X4_thingNumbered
set_option maxRecDepth 20000 in
theorem ggX4_holder_X3_lastParty : GoodIn wsX4_holder wsX3_lastParty := goodIn_r _ [13, 14, 15, 28, 29, 30, 31, 32, 33, 34, 35, 36, 37, 38, 39, 40, 41, 42] (by decide +kernel) (by decide +kernel)
set_option maxRecDepth 20000 in
theorem gX4_holder_X3_lastParty : GoodIn wsX4_holder (wsV RX4 176 RX3 yX3_lastParty wsX3_lastParty) := goodIn_app (goodIn_of _ (by decide +kernel)) ggX4_holder_X3_lastParty
set_option maxRecDepth 20000 in
theorem ggX4_holder_X4_numberOf : GoodIn wsX4_holder wsX4_numberOf := goodIn_r _ [18, 19, 43, 44, 45, 46, 47, 48] (by decide +kernel) (by decide +kernel)
set_option maxRecDepth 20000 in
theorem gX4_holder_X4_numberOf : GoodIn wsX4_holder (va_wsS RX4 149 yX4_numberOf wsX4_numberOf) := goodIn_app (goodIn_of _ (by decide +kernel)) ggX4_holder_X4_numberOf
theorem dX4_holder_0 : decode cX4_holder 0 = .ok (.aload_n 0, 1) := by decide +kernel
theorem dX4_holder_1 : decode cX4_holder 1 = .ok (.iload_n 1, 1) := by decide +kernel
theorem dX4_holder_2 : decode cX4_holder 2 = .ok (.invokevirtual 101, 3) := by decide +kernel
theorem dX4_holder_5 : decode cX4_holder 5 = .ok (.invokevirtual 176, 3) := by decide +kernel
theorem dX4_holder_8 : decode cX4_holder 8 = .ok (.invokestatic 149, 3) := by decide +kernel
theorem dX4_holder_11 : decode cX4_holder 11 = .ok (.ireturn, 1) := by decide +kernel
set_option maxRecDepth 20000 in
theorem ggX4_owner_X4_thingNumbered : GoodIn wsX4_owner wsX4_thingNumbered := goodIn_ca (goodIn_r _ [5, 6, 7, 8, 63, 64, 65, 66, 67, 68, 69, 70] (by decide +kernel) (by decide +kernel)) (goodIn_sub (fun _ h => List.mem_cons_of_mem _ (List.mem_append_right _ h)) (by decide +kernel))
set_option maxRecDepth 20000 in
theorem gX4_owner_X4_thingNumbered : GoodIn wsX4_owner (wsV RX4 101 RX4 yX4_thingNumbered wsX4_thingNumbered) := goodIn_app (goodIn_of _ (by decide +kernel)) ggX4_owner_X4_thingNumbered
set_option maxRecDepth 20000 in
theorem ggX4_owner_X4_titleFromFirst : GoodIn wsX4_owner wsX4_titleFromFirst := goodIn_r _ [12, 13, 14, 15, 16, 17, 18, 4, 19, 20, 21, 22, 23, 24, 25, 26, 27, 28, 29, 30, 31, 32, 33, 34, 35, 36, 37, 38, 39, 40, 41, 42, 43, 44, 45, 46, 47, 48, 49, 50, 71, 72, 73, 74, 75, 76, 77, 78, 79, 80, 81, 82, 83, 84, 85, 63, 64, 65, 66, 67, 68, 69, 70, 86, 87, 88, 89, 90, 91, 92, 93, 94, 95] (by decide +kernel) (by decide +kernel)
set_option maxRecDepth 20000 in
theorem gX4_owner_X4_titleFromFirst : GoodIn wsX4_owner (wsV RX4 180 RX4 yX4_titleFromFirst wsX4_titleFromFirst) := goodIn_app (goodIn_of _ (by decide +kernel)) ggX4_owner_X4_titleFromFirst
set_option maxRecDepth 20000 in
theorem ggX4_owner_X4_livingFor : GoodIn wsX4_owner wsX4_livingFor := goodIn_r _ [53, 54, 55, 56, 4, 57, 58, 51, 52, 86, 87, 88, 89, 90, 91] (by decide +kernel) (by decide +kernel)
set_option maxRecDepth 20000 in
theorem gX4_owner_X4_livingFor : GoodIn wsX4_owner (va_wsS RX4 184 yX4_livingFor wsX4_livingFor) := goodIn_app (goodIn_of _ (by decide +kernel)) ggX4_owner_X4_livingFor
set_option maxRecDepth 20000 in
theorem ggX4_owner_X4_numberOf : GoodIn wsX4_owner wsX4_numberOf := goodIn_r _ [61, 62, 86, 87, 88, 89, 90, 91] (by decide +kernel) (by decide +kernel)
set_option maxRecDepth 20000 in
theorem gX4_owner_X4_numberOf : GoodIn wsX4_owner (va_wsS RX4 149 yX4_numberOf wsX4_numberOf) := goodIn_app (goodIn_of _ (by decide +kernel)) ggX4_owner_X4_numberOf
theorem dX4_owner_0 : decode cX4_owner 0 = .ok (.aload_n 0, 1) := by decide +kernel
theorem dX4_owner_1 : decode cX4_owner 1 = .ok (.aload_n 0, 1) := by decide +kernel
theorem dX4_owner_2 : decode cX4_owner 2 = .ok (.iload_n 1, 1) := by decide +kernel
theorem dX4_owner_3 : decode cX4_owner 3 = .ok (.invokevirtual 101, 3) := by decide +kernel
theorem dX4_owner_6 : decode cX4_owner 6 = .ok (.invokevirtual 180, 3) := by decide +kernel
theorem dX4_owner_9 : decode cX4_owner 9 = .ok (.iconst 3, 1) := by decide +kernel
theorem dX4_owner_10 : decode cX4_owner 10 = .ok (.invokestatic 184, 3) := by decide +kernel
theorem dX4_owner_13 : decode cX4_owner 13 = .ok (.invokestatic 149, 3) := by decide +kernel
theorem dX4_owner_16 : decode cX4_owner 16 = .ok (.ireturn, 1) := by decide +kernel
set_option maxRecDepth 20000 in
theorem ggX4_ownerAnew_X4_thingNumbered : GoodIn wsX4_ownerAnew wsX4_thingNumbered := goodIn_ca (goodIn_r _ [5, 6, 7, 8, 60, 61, 62, 63, 64, 65, 66, 67] (by decide +kernel) (by decide +kernel)) (goodIn_sub (fun _ h => List.mem_cons_of_mem _ (List.mem_append_right _ h)) (by decide +kernel))
set_option maxRecDepth 20000 in
theorem gX4_ownerAnew_X4_thingNumbered : GoodIn wsX4_ownerAnew (wsV RX4 101 RX4 yX4_thingNumbered wsX4_thingNumbered) := goodIn_app (goodIn_of _ (by decide +kernel)) ggX4_ownerAnew_X4_thingNumbered
set_option maxRecDepth 20000 in
theorem ggX4_ownerAnew_X4_titleFromLast : GoodIn wsX4_ownerAnew wsX4_titleFromLast := goodIn_r _ [12, 13, 14, 15, 16, 17, 18, 19, 20, 4, 21, 22, 23, 24, 25, 26, 27, 28, 29, 30, 31, 32, 33, 34, 35, 36, 37, 38, 39, 40, 41, 42, 43, 44, 45, 46, 47, 68, 69, 70, 71, 72, 73, 74, 75, 76, 77, 78, 79, 80, 81, 82, 83, 84, 85, 86, 87, 88, 60, 61, 62, 63, 64, 65, 66, 67, 89, 90, 91, 92] (by decide +kernel) (by decide +kernel)
set_option maxRecDepth 20000 in
theorem gX4_ownerAnew_X4_titleFromLast : GoodIn wsX4_ownerAnew (wsV RX4 187 RX4 yX4_titleFromLast wsX4_titleFromLast) := goodIn_app (goodIn_of _ (by decide +kernel)) ggX4_ownerAnew_X4_titleFromLast
set_option maxRecDepth 20000 in
theorem ggX4_ownerAnew_X4_livingFor : GoodIn wsX4_ownerAnew wsX4_livingFor := goodIn_r _ [50, 51, 52, 53, 4, 54, 55, 48, 49, 83, 84, 85, 86, 87, 88] (by decide +kernel) (by decide +kernel)
set_option maxRecDepth 20000 in
theorem gX4_ownerAnew_X4_livingFor : GoodIn wsX4_ownerAnew (va_wsS RX4 184 yX4_livingFor wsX4_livingFor) := goodIn_app (goodIn_of _ (by decide +kernel)) ggX4_ownerAnew_X4_livingFor
set_option maxRecDepth 20000 in
theorem ggX4_ownerAnew_X4_numberOf : GoodIn wsX4_ownerAnew wsX4_numberOf := goodIn_r _ [58, 59, 83, 84, 85, 86, 87, 88] (by decide +kernel) (by decide +kernel)
set_option maxRecDepth 20000 in
theorem gX4_ownerAnew_X4_numberOf : GoodIn wsX4_ownerAnew (va_wsS RX4 149 yX4_numberOf wsX4_numberOf) := goodIn_app (goodIn_of _ (by decide +kernel)) ggX4_ownerAnew_X4_numberOf
theorem dX4_ownerAnew_0 : decode cX4_ownerAnew 0 = .ok (.aload_n 0, 1) := by decide +kernel
theorem dX4_ownerAnew_1 : decode cX4_ownerAnew 1 = .ok (.aload_n 0, 1) := by decide +kernel
theorem dX4_ownerAnew_2 : decode cX4_ownerAnew 2 = .ok (.iload_n 1, 1) := by decide +kernel
theorem dX4_ownerAnew_3 : decode cX4_ownerAnew 3 = .ok (.invokevirtual 101, 3) := by decide +kernel
theorem dX4_ownerAnew_6 : decode cX4_ownerAnew 6 = .ok (.invokevirtual 187, 3) := by decide +kernel
theorem dX4_ownerAnew_9 : decode cX4_ownerAnew 9 = .ok (.iconst 3, 1) := by decide +kernel
theorem dX4_ownerAnew_10 : decode cX4_ownerAnew 10 = .ok (.invokestatic 184, 3) := by decide +kernel
theorem dX4_ownerAnew_13 : decode cX4_ownerAnew 13 = .ok (.invokestatic 149, 3) := by decide +kernel
theorem dX4_ownerAnew_16 : decode cX4_ownerAnew 16 = .ok (.ireturn, 1) := by decide +kernel
set_option maxRecDepth 20000 in
theorem ggX4_asks_X4_personNumbered : GoodIn wsX4_asks wsX4_personNumbered := goodIn_ca (goodIn_r _ [6, 7, 8, 9, 67, 68, 69, 70, 71, 72, 73, 74] (by decide +kernel) (by decide +kernel)) (goodIn_sub (fun _ h => List.mem_cons_of_mem _ (List.mem_append_right _ h)) (by decide +kernel))
set_option maxRecDepth 20000 in
theorem gX4_asks_X4_personNumbered : GoodIn wsX4_asks (wsV RX4 52 RX4 yX4_personNumbered wsX4_personNumbered) := goodIn_app (goodIn_of _ (by decide +kernel)) ggX4_asks_X4_personNumbered
set_option maxRecDepth 20000 in
theorem ggX4_asks_X3_lastParty : GoodIn wsX4_asks wsX3_lastParty := goodIn_r _ [14, 15, 16, 75, 76, 77, 78, 79, 80, 81, 82, 83, 84, 85, 86, 87, 88, 89] (by decide +kernel) (by decide +kernel)
set_option maxRecDepth 20000 in
theorem gX4_asks_X3_lastParty : GoodIn wsX4_asks (wsV RX4 176 RX3 yX3_lastParty wsX3_lastParty) := goodIn_app (goodIn_of _ (by decide +kernel)) ggX4_asks_X3_lastParty
set_option maxRecDepth 20000 in
theorem ggX4_asks_X4_titleFromFirst : GoodIn wsX4_asks wsX4_titleFromFirst := goodIn_r _ [20, 21, 22, 23, 24, 25, 26, 5, 27, 28, 29, 30, 31, 32, 33, 34, 35, 36, 37, 38, 39, 40, 41, 42, 43, 44, 45, 46, 47, 48, 49, 50, 51, 52, 53, 54, 55, 56, 57, 58, 75, 76, 77, 78, 79, 80, 81, 82, 83, 84, 85, 86, 87, 88, 89, 67, 68, 69, 70, 71, 72, 73, 74, 90, 91, 92, 93, 94, 95, 96, 97, 98, 99] (by decide +kernel) (by decide +kernel)
set_option maxRecDepth 20000 in
theorem gX4_asks_X4_titleFromFirst : GoodIn wsX4_asks (wsV RX4 180 RX4 yX4_titleFromFirst wsX4_titleFromFirst) := goodIn_app (goodIn_of _ (by decide +kernel)) ggX4_asks_X4_titleFromFirst
set_option maxRecDepth 20000 in
theorem ggX4_asks_X4_livingFor : GoodIn wsX4_asks wsX4_livingFor := goodIn_r _ [61, 62, 63, 64, 5, 65, 66, 59, 60, 90, 91, 92, 93, 94, 95] (by decide +kernel) (by decide +kernel)
set_option maxRecDepth 20000 in
theorem gX4_asks_X4_livingFor : GoodIn wsX4_asks (va_wsS RX4 184 yX4_livingFor wsX4_livingFor) := goodIn_app (goodIn_of _ (by decide +kernel)) ggX4_asks_X4_livingFor
theorem dX4_asks_0 : decode cX4_asks 0 = .ok (.aload_n 0, 1) := by decide +kernel
theorem dX4_asks_1 : decode cX4_asks 1 = .ok (.iload_n 1, 1) := by decide +kernel
theorem dX4_asks_2 : decode cX4_asks 2 = .ok (.invokevirtual 52, 3) := by decide +kernel
theorem dX4_asks_5 : decode cX4_asks 5 = .ok (.astore_n 2, 1) := by decide +kernel
theorem dX4_asks_6 : decode cX4_asks 6 = .ok (.iconst 0, 1) := by decide +kernel
theorem dX4_asks_7 : decode cX4_asks 7 = .ok (.istore_n 3, 1) := by decide +kernel
theorem dX4_asks_8 : decode cX4_asks 8 = .ok (.aload_n 0, 1) := by decide +kernel
theorem dX4_asks_9 : decode cX4_asks 9 = .ok (.getfield 31, 3) := by decide +kernel
theorem dX4_asks_12 : decode cX4_asks 12 = .ok (.astore 4, 2) := by decide +kernel
theorem dX4_asks_14 : decode cX4_asks 14 = .ok (.aload 4, 2) := by decide +kernel
theorem dX4_asks_16 : decode cX4_asks 16 = .ok (.arraylength, 1) := by decide +kernel
theorem dX4_asks_17 : decode cX4_asks 17 = .ok (.istore 5, 2) := by decide +kernel
theorem dX4_asks_19 : decode cX4_asks 19 = .ok (.iconst 0, 1) := by decide +kernel
theorem dX4_asks_20 : decode cX4_asks 20 = .ok (.istore 6, 2) := by decide +kernel
theorem dX4_asks_22 : decode cX4_asks 22 = .ok (.iload 6, 2) := by decide +kernel
theorem dX4_asks_24 : decode cX4_asks 24 = .ok (.iload 5, 2) := by decide +kernel
theorem dX4_asks_26 : decode cX4_asks 26 = .ok (.if_icmp .ge 47, 3) := by decide +kernel
theorem dX4_asks_29 : decode cX4_asks 29 = .ok (.aload 4, 2) := by decide +kernel
theorem dX4_asks_31 : decode cX4_asks 31 = .ok (.iload 6, 2) := by decide +kernel
theorem dX4_asks_33 : decode cX4_asks 33 = .ok (.aaload, 1) := by decide +kernel
theorem dX4_asks_34 : decode cX4_asks 34 = .ok (.astore 7, 2) := by decide +kernel
theorem dX4_asks_36 : decode cX4_asks 36 = .ok (.aload 7, 2) := by decide +kernel
theorem dX4_asks_38 : decode cX4_asks 38 = .ok (.ifnull 29, 3) := by decide +kernel
theorem dX4_asks_41 : decode cX4_asks 41 = .ok (.aload 7, 2) := by decide +kernel
theorem dX4_asks_43 : decode cX4_asks 43 = .ok (.invokevirtual 176, 3) := by decide +kernel
theorem dX4_asks_46 : decode cX4_asks 46 = .ok (.aload_n 2, 1) := by decide +kernel
theorem dX4_asks_47 : decode cX4_asks 47 = .ok (.if_acmp .eq 20, 3) := by decide +kernel
theorem dX4_asks_50 : decode cX4_asks 50 = .ok (.aload_n 0, 1) := by decide +kernel
theorem dX4_asks_51 : decode cX4_asks 51 = .ok (.aload 7, 2) := by decide +kernel
theorem dX4_asks_53 : decode cX4_asks 53 = .ok (.invokevirtual 180, 3) := by decide +kernel
theorem dX4_asks_56 : decode cX4_asks 56 = .ok (.iconst 3, 1) := by decide +kernel
theorem dX4_asks_57 : decode cX4_asks 57 = .ok (.invokestatic 184, 3) := by decide +kernel
theorem dX4_asks_60 : decode cX4_asks 60 = .ok (.aload_n 2, 1) := by decide +kernel
theorem dX4_asks_61 : decode cX4_asks 61 = .ok (.if_acmp .ne 6, 3) := by decide +kernel
theorem dX4_asks_64 : decode cX4_asks 64 = .ok (.iinc 3 1, 3) := by decide +kernel
theorem dX4_asks_67 : decode cX4_asks 67 = .ok (.iinc 6 1, 3) := by decide +kernel
theorem dX4_asks_70 : decode cX4_asks 70 = .ok (.goto (-48), 3) := by decide +kernel
theorem dX4_asks_73 : decode cX4_asks 73 = .ok (.iload_n 3, 1) := by decide +kernel
theorem dX4_asks_74 : decode cX4_asks 74 = .ok (.ireturn, 1) := by decide +kernel
end
section
theorem dX4_requireGroup_0 : decode cX4_requireGroup 0 = .ok (.iload_n 0, 1) := by decide +kernel
theorem dX4_requireGroup_1 : decode cX4_requireGroup 1 = .ok (.ifCond .lt 8, 3) := by decide +kernel
theorem dX4_requireGroup_4 : decode cX4_requireGroup 4 = .ok (.iload_n 0, 1) := by decide +kernel
theorem dX4_requireGroup_5 : decode cX4_requireGroup 5 = .ok (.iconst 4, 1) := by decide +kernel
theorem dX4_requireGroup_6 : decode cX4_requireGroup 6 = .ok (.if_icmp .lt 13, 3) := by decide +kernel
theorem dX4_requireGroup_9 : decode cX4_requireGroup 9 = .ok (.new 157, 3) := by decide +kernel
theorem dX4_requireGroup_12 : decode cX4_requireGroup 12 = .ok (.dup, 1) := by decide +kernel
theorem dX4_requireGroup_13 : decode cX4_requireGroup 13 = .ok (.ldc 190, 2) := by decide +kernel
theorem dX4_requireGroup_15 : decode cX4_requireGroup 15 = .ok (.invokespecial 161, 3) := by decide +kernel
theorem dX4_requireGroup_18 : decode cX4_requireGroup 18 = .ok (.athrow, 1) := by decide +kernel
theorem dX4_requireGroup_19 : decode cX4_requireGroup 19 = .ok (.return_, 1) := by decide +kernel
theorem dX4_requireLand_0 : decode cX4_requireLand 0 = .ok (.iload_n 0, 1) := by decide +kernel
theorem dX4_requireLand_1 : decode cX4_requireLand 1 = .ok (.ifCond .lt 8, 3) := by decide +kernel
theorem dX4_requireLand_4 : decode cX4_requireLand 4 = .ok (.iload_n 0, 1) := by decide +kernel
theorem dX4_requireLand_5 : decode cX4_requireLand 5 = .ok (.iconst 5, 1) := by decide +kernel
theorem dX4_requireLand_6 : decode cX4_requireLand 6 = .ok (.if_icmp .lt 13, 3) := by decide +kernel
theorem dX4_requireLand_9 : decode cX4_requireLand 9 = .ok (.new 157, 3) := by decide +kernel
theorem dX4_requireLand_12 : decode cX4_requireLand 12 = .ok (.dup, 1) := by decide +kernel
theorem dX4_requireLand_13 : decode cX4_requireLand 13 = .ok (.ldc 192, 2) := by decide +kernel
theorem dX4_requireLand_15 : decode cX4_requireLand 15 = .ok (.invokespecial 161, 3) := by decide +kernel
theorem dX4_requireLand_18 : decode cX4_requireLand 18 = .ok (.athrow, 1) := by decide +kernel
theorem dX4_requireLand_19 : decode cX4_requireLand 19 = .ok (.return_, 1) := by decide +kernel
theorem dX4_requireRange_0 : decode cX4_requireRange 0 = .ok (.iload_n 0, 1) := by decide +kernel
theorem dX4_requireRange_1 : decode cX4_requireRange 1 = .ok (.iload_n 1, 1) := by decide +kernel
theorem dX4_requireRange_2 : decode cX4_requireRange 2 = .ok (.if_icmp .lt 8, 3) := by decide +kernel
theorem dX4_requireRange_5 : decode cX4_requireRange 5 = .ok (.iload_n 0, 1) := by decide +kernel
theorem dX4_requireRange_6 : decode cX4_requireRange 6 = .ok (.iload_n 2, 1) := by decide +kernel
theorem dX4_requireRange_7 : decode cX4_requireRange 7 = .ok (.if_icmp .le 13, 3) := by decide +kernel
theorem dX4_requireRange_10 : decode cX4_requireRange 10 = .ok (.new 62, 3) := by decide +kernel
theorem dX4_requireRange_13 : decode cX4_requireRange 13 = .ok (.dup, 1) := by decide +kernel
theorem dX4_requireRange_14 : decode cX4_requireRange 14 = .ok (.ldc 194, 2) := by decide +kernel
theorem dX4_requireRange_16 : decode cX4_requireRange 16 = .ok (.invokespecial 66, 3) := by decide +kernel
theorem dX4_requireRange_19 : decode cX4_requireRange 19 = .ok (.athrow, 1) := by decide +kernel
theorem dX4_requireRange_20 : decode cX4_requireRange 20 = .ok (.return_, 1) := by decide +kernel
theorem dX4_personNumbered_0 : decode cX4_personNumbered 0 = .ok (.iload_n 1, 1) := by decide +kernel
theorem dX4_personNumbered_1 : decode cX4_personNumbered 1 = .ok (.ifCond .lt 18, 3) := by decide +kernel
theorem dX4_personNumbered_4 : decode cX4_personNumbered 4 = .ok (.iload_n 1, 1) := by decide +kernel
theorem dX4_personNumbered_5 : decode cX4_personNumbered 5 = .ok (.bipush 12, 2) := by decide +kernel
theorem dX4_personNumbered_7 : decode cX4_personNumbered 7 = .ok (.if_icmp .ge 12, 3) := by decide +kernel
theorem dX4_personNumbered_10 : decode cX4_personNumbered 10 = .ok (.aload_n 0, 1) := by decide +kernel
theorem dX4_personNumbered_11 : decode cX4_personNumbered 11 = .ok (.getfield 11, 3) := by decide +kernel
theorem dX4_personNumbered_14 : decode cX4_personNumbered 14 = .ok (.iload_n 1, 1) := by decide +kernel
theorem dX4_personNumbered_15 : decode cX4_personNumbered 15 = .ok (.aaload, 1) := by decide +kernel
theorem dX4_personNumbered_16 : decode cX4_personNumbered 16 = .ok (.goto 4, 3) := by decide +kernel
theorem dX4_personNumbered_19 : decode cX4_personNumbered 19 = .ok (.aconst_null, 1) := by decide +kernel
theorem dX4_personNumbered_20 : decode cX4_personNumbered 20 = .ok (.astore_n 2, 1) := by decide +kernel
theorem dX4_personNumbered_21 : decode cX4_personNumbered 21 = .ok (.aload_n 2, 1) := by decide +kernel
theorem dX4_personNumbered_22 : decode cX4_personNumbered 22 = .ok (.ifnonnull 13, 3) := by decide +kernel
theorem dX4_personNumbered_25 : decode cX4_personNumbered 25 = .ok (.new 157, 3) := by decide +kernel
theorem dX4_personNumbered_28 : decode cX4_personNumbered 28 = .ok (.dup, 1) := by decide +kernel
theorem dX4_personNumbered_29 : decode cX4_personNumbered 29 = .ok (.ldc 196, 2) := by decide +kernel
theorem dX4_personNumbered_31 : decode cX4_personNumbered 31 = .ok (.invokespecial 161, 3) := by decide +kernel
theorem dX4_personNumbered_34 : decode cX4_personNumbered 34 = .ok (.athrow, 1) := by decide +kernel
theorem dX4_personNumbered_35 : decode cX4_personNumbered 35 = .ok (.aload_n 2, 1) := by decide +kernel
theorem dX4_personNumbered_36 : decode cX4_personNumbered 36 = .ok (.areturn, 1) := by decide +kernel
theorem dX4_thingNumbered_0 : decode cX4_thingNumbered 0 = .ok (.iload_n 1, 1) := by decide +kernel
theorem dX4_thingNumbered_1 : decode cX4_thingNumbered 1 = .ok (.ifCond .lt 18, 3) := by decide +kernel
theorem dX4_thingNumbered_4 : decode cX4_thingNumbered 4 = .ok (.iload_n 1, 1) := by decide +kernel
theorem dX4_thingNumbered_5 : decode cX4_thingNumbered 5 = .ok (.bipush 10, 2) := by decide +kernel
theorem dX4_thingNumbered_7 : decode cX4_thingNumbered 7 = .ok (.if_icmp .ge 12, 3) := by decide +kernel
theorem dX4_thingNumbered_10 : decode cX4_thingNumbered 10 = .ok (.aload_n 0, 1) := by decide +kernel
theorem dX4_thingNumbered_11 : decode cX4_thingNumbered 11 = .ok (.getfield 31, 3) := by decide +kernel
theorem dX4_thingNumbered_14 : decode cX4_thingNumbered 14 = .ok (.iload_n 1, 1) := by decide +kernel
theorem dX4_thingNumbered_15 : decode cX4_thingNumbered 15 = .ok (.aaload, 1) := by decide +kernel
theorem dX4_thingNumbered_16 : decode cX4_thingNumbered 16 = .ok (.goto 4, 3) := by decide +kernel
theorem dX4_thingNumbered_19 : decode cX4_thingNumbered 19 = .ok (.aconst_null, 1) := by decide +kernel
theorem dX4_thingNumbered_20 : decode cX4_thingNumbered 20 = .ok (.astore_n 2, 1) := by decide +kernel
theorem dX4_thingNumbered_21 : decode cX4_thingNumbered 21 = .ok (.aload_n 2, 1) := by decide +kernel
theorem dX4_thingNumbered_22 : decode cX4_thingNumbered 22 = .ok (.ifnonnull 13, 3) := by decide +kernel
theorem dX4_thingNumbered_25 : decode cX4_thingNumbered 25 = .ok (.new 157, 3) := by decide +kernel
theorem dX4_thingNumbered_28 : decode cX4_thingNumbered 28 = .ok (.dup, 1) := by decide +kernel
theorem dX4_thingNumbered_29 : decode cX4_thingNumbered 29 = .ok (.ldc 198, 2) := by decide +kernel
theorem dX4_thingNumbered_31 : decode cX4_thingNumbered 31 = .ok (.invokespecial 161, 3) := by decide +kernel
theorem dX4_thingNumbered_34 : decode cX4_thingNumbered 34 = .ok (.athrow, 1) := by decide +kernel
theorem dX4_thingNumbered_35 : decode cX4_thingNumbered 35 = .ok (.aload_n 2, 1) := by decide +kernel
theorem dX4_thingNumbered_36 : decode cX4_thingNumbered 36 = .ok (.areturn, 1) := by decide +kernel
set_option maxRecDepth 20000 in
theorem ggX4_stationNumbered_X4_thingNumbered : GoodIn wsX4_stationNumbered wsX4_thingNumbered := goodIn_ca (goodIn_r _ [8, 1, 2, 9, 16, 17, 18, 19, 20, 21, 22, 23] (by decide +kernel) (by decide +kernel)) (goodIn_sub (fun _ h => List.mem_cons_of_mem _ (List.mem_append_right _ h)) (by decide +kernel))
set_option maxRecDepth 20000 in
theorem gX4_stationNumbered_X4_thingNumbered : GoodIn wsX4_stationNumbered (wsV RX4 101 RX4 yX4_thingNumbered wsX4_thingNumbered) := goodIn_app (goodIn_of _ (by decide +kernel)) ggX4_stationNumbered_X4_thingNumbered
theorem dX4_stationNumbered_0 : decode cX4_stationNumbered 0 = .ok (.aload_n 0, 1) := by decide +kernel
theorem dX4_stationNumbered_1 : decode cX4_stationNumbered 1 = .ok (.iload_n 1, 1) := by decide +kernel
theorem dX4_stationNumbered_2 : decode cX4_stationNumbered 2 = .ok (.invokevirtual 101, 3) := by decide +kernel
theorem dX4_stationNumbered_5 : decode cX4_stationNumbered 5 = .ok (.astore_n 3, 1) := by decide +kernel
theorem dX4_stationNumbered_6 : decode cX4_stationNumbered 6 = .ok (.iload_n 2, 1) := by decide +kernel
theorem dX4_stationNumbered_7 : decode cX4_stationNumbered 7 = .ok (.ifCond .lt 18, 3) := by decide +kernel
theorem dX4_stationNumbered_10 : decode cX4_stationNumbered 10 = .ok (.iload_n 2, 1) := by decide +kernel
theorem dX4_stationNumbered_11 : decode cX4_stationNumbered 11 = .ok (.bipush 8, 2) := by decide +kernel
theorem dX4_stationNumbered_13 : decode cX4_stationNumbered 13 = .ok (.if_icmp .ge 12, 3) := by decide +kernel
theorem dX4_stationNumbered_16 : decode cX4_stationNumbered 16 = .ok (.aload_n 3, 1) := by decide +kernel
theorem dX4_stationNumbered_17 : decode cX4_stationNumbered 17 = .ok (.getfield 118, 3) := by decide +kernel
theorem dX4_stationNumbered_20 : decode cX4_stationNumbered 20 = .ok (.iload_n 2, 1) := by decide +kernel
theorem dX4_stationNumbered_21 : decode cX4_stationNumbered 21 = .ok (.aaload, 1) := by decide +kernel
theorem dX4_stationNumbered_22 : decode cX4_stationNumbered 22 = .ok (.goto 4, 3) := by decide +kernel
theorem dX4_stationNumbered_25 : decode cX4_stationNumbered 25 = .ok (.aconst_null, 1) := by decide +kernel
theorem dX4_stationNumbered_26 : decode cX4_stationNumbered 26 = .ok (.astore 4, 2) := by decide +kernel
theorem dX4_stationNumbered_28 : decode cX4_stationNumbered 28 = .ok (.aload 4, 2) := by decide +kernel
theorem dX4_stationNumbered_30 : decode cX4_stationNumbered 30 = .ok (.ifnonnull 13, 3) := by decide +kernel
theorem dX4_stationNumbered_33 : decode cX4_stationNumbered 33 = .ok (.new 157, 3) := by decide +kernel
theorem dX4_stationNumbered_36 : decode cX4_stationNumbered 36 = .ok (.dup, 1) := by decide +kernel
theorem dX4_stationNumbered_37 : decode cX4_stationNumbered 37 = .ok (.ldc 200, 2) := by decide +kernel
theorem dX4_stationNumbered_39 : decode cX4_stationNumbered 39 = .ok (.invokespecial 161, 3) := by decide +kernel
theorem dX4_stationNumbered_42 : decode cX4_stationNumbered 42 = .ok (.athrow, 1) := by decide +kernel
theorem dX4_stationNumbered_43 : decode cX4_stationNumbered 43 = .ok (.aload 4, 2) := by decide +kernel
theorem dX4_stationNumbered_45 : decode cX4_stationNumbered 45 = .ok (.areturn, 1) := by decide +kernel
theorem dX4_numberOf_0 : decode cX4_numberOf 0 = .ok (.aload_n 0, 1) := by decide +kernel
theorem dX4_numberOf_1 : decode cX4_numberOf 1 = .ok (.ifnonnull 7, 3) := by decide +kernel
theorem dX4_numberOf_4 : decode cX4_numberOf 4 = .ok (.iconst (-1), 1) := by decide +kernel
theorem dX4_numberOf_5 : decode cX4_numberOf 5 = .ok (.goto 7, 3) := by decide +kernel
theorem dX4_numberOf_8 : decode cX4_numberOf 8 = .ok (.aload_n 0, 1) := by decide +kernel
theorem dX4_numberOf_9 : decode cX4_numberOf 9 = .ok (.getfield 202, 3) := by decide +kernel
theorem dX4_numberOf_12 : decode cX4_numberOf 12 = .ok (.ireturn, 1) := by decide +kernel
set_option maxRecDepth 20000 in
theorem ggX4_isDarkFor_X0_strikes : GoodIn wsX4_isDarkFor wsX0_strikes := goodIn_r _ [7, 8, 9, 10, 11, 26, 27, 28, 29] (by decide +kernel) (by decide +kernel)
set_option maxRecDepth 20000 in
theorem gX4_isDarkFor_X0_strikes : GoodIn wsX4_isDarkFor (wsV RX4 206 RX0 yX0_strikes wsX0_strikes) := goodIn_app (goodIn_of _ (by decide +kernel)) ggX4_isDarkFor_X0_strikes
theorem dX4_isDarkFor_0 : decode cX4_isDarkFor 0 = .ok (.aload_n 0, 1) := by decide +kernel
theorem dX4_isDarkFor_1 : decode cX4_isDarkFor 1 = .ok (.getfield 17, 3) := by decide +kernel
theorem dX4_isDarkFor_4 : decode cX4_isDarkFor 4 = .ok (.astore 4, 2) := by decide +kernel
theorem dX4_isDarkFor_6 : decode cX4_isDarkFor 6 = .ok (.aload 4, 2) := by decide +kernel
theorem dX4_isDarkFor_8 : decode cX4_isDarkFor 8 = .ok (.arraylength, 1) := by decide +kernel
theorem dX4_isDarkFor_9 : decode cX4_isDarkFor 9 = .ok (.istore 5, 2) := by decide +kernel
theorem dX4_isDarkFor_11 : decode cX4_isDarkFor 11 = .ok (.iconst 0, 1) := by decide +kernel
theorem dX4_isDarkFor_12 : decode cX4_isDarkFor 12 = .ok (.istore 6, 2) := by decide +kernel
theorem dX4_isDarkFor_14 : decode cX4_isDarkFor 14 = .ok (.iload 6, 2) := by decide +kernel
theorem dX4_isDarkFor_16 : decode cX4_isDarkFor 16 = .ok (.iload 5, 2) := by decide +kernel
theorem dX4_isDarkFor_18 : decode cX4_isDarkFor 18 = .ok (.if_icmp .ge 37, 3) := by decide +kernel
theorem dX4_isDarkFor_21 : decode cX4_isDarkFor 21 = .ok (.aload 4, 2) := by decide +kernel
theorem dX4_isDarkFor_23 : decode cX4_isDarkFor 23 = .ok (.iload 6, 2) := by decide +kernel
theorem dX4_isDarkFor_25 : decode cX4_isDarkFor 25 = .ok (.aaload, 1) := by decide +kernel
theorem dX4_isDarkFor_26 : decode cX4_isDarkFor 26 = .ok (.astore 7, 2) := by decide +kernel
theorem dX4_isDarkFor_28 : decode cX4_isDarkFor 28 = .ok (.aload 7, 2) := by decide +kernel
theorem dX4_isDarkFor_30 : decode cX4_isDarkFor 30 = .ok (.ifnull 19, 3) := by decide +kernel
theorem dX4_isDarkFor_33 : decode cX4_isDarkFor 33 = .ok (.aload 7, 2) := by decide +kernel
theorem dX4_isDarkFor_35 : decode cX4_isDarkFor 35 = .ok (.aload_n 1, 1) := by decide +kernel
theorem dX4_isDarkFor_36 : decode cX4_isDarkFor 36 = .ok (.getfield 203, 3) := by decide +kernel
theorem dX4_isDarkFor_39 : decode cX4_isDarkFor 39 = .ok (.iload_n 2, 1) := by decide +kernel
theorem dX4_isDarkFor_40 : decode cX4_isDarkFor 40 = .ok (.iload_n 3, 1) := by decide +kernel
theorem dX4_isDarkFor_41 : decode cX4_isDarkFor 41 = .ok (.invokevirtual 206, 3) := by decide +kernel
theorem dX4_isDarkFor_44 : decode cX4_isDarkFor 44 = .ok (.ifCond .eq 5, 3) := by decide +kernel
theorem dX4_isDarkFor_47 : decode cX4_isDarkFor 47 = .ok (.iconst 1, 1) := by decide +kernel
theorem dX4_isDarkFor_48 : decode cX4_isDarkFor 48 = .ok (.ireturn, 1) := by decide +kernel
theorem dX4_isDarkFor_49 : decode cX4_isDarkFor 49 = .ok (.iinc 6 1, 3) := by decide +kernel
theorem dX4_isDarkFor_52 : decode cX4_isDarkFor 52 = .ok (.goto (-38), 3) := by decide +kernel
theorem dX4_isDarkFor_55 : decode cX4_isDarkFor 55 = .ok (.iconst 0, 1) := by decide +kernel
theorem dX4_isDarkFor_56 : decode cX4_isDarkFor 56 = .ok (.ireturn, 1) := by decide +kernel
set_option maxRecDepth 20000 in
theorem ggX4_livingHeir_X4_livingFor : GoodIn wsX4_livingHeir wsX4_livingFor := goodIn_r _ [5, 6, 7, 8, 4, 0, 1, 2, 3, 9, 10, 11, 12, 13, 14] (by decide +kernel) (by decide +kernel)
set_option maxRecDepth 20000 in
theorem gX4_livingHeir_X4_livingFor : GoodIn wsX4_livingHeir (va_wsS RX4 184 yX4_livingFor wsX4_livingFor) := goodIn_app (goodIn_of _ (by decide +kernel)) ggX4_livingHeir_X4_livingFor
theorem dX4_livingHeir_0 : decode cX4_livingHeir 0 = .ok (.iload_n 1, 1) := by decide +kernel
theorem dX4_livingHeir_1 : decode cX4_livingHeir 1 = .ok (.ifCond .gt 5, 3) := by decide +kernel
theorem dX4_livingHeir_4 : decode cX4_livingHeir 4 = .ok (.aconst_null, 1) := by decide +kernel
theorem dX4_livingHeir_5 : decode cX4_livingHeir 5 = .ok (.areturn, 1) := by decide +kernel
theorem dX4_livingHeir_6 : decode cX4_livingHeir 6 = .ok (.aload_n 0, 1) := by decide +kernel
theorem dX4_livingHeir_7 : decode cX4_livingHeir 7 = .ok (.getfield 74, 3) := by decide +kernel
theorem dX4_livingHeir_10 : decode cX4_livingHeir 10 = .ok (.astore_n 2, 1) := by decide +kernel
theorem dX4_livingHeir_11 : decode cX4_livingHeir 11 = .ok (.aload_n 2, 1) := by decide +kernel
theorem dX4_livingHeir_12 : decode cX4_livingHeir 12 = .ok (.arraylength, 1) := by decide +kernel
theorem dX4_livingHeir_13 : decode cX4_livingHeir 13 = .ok (.istore_n 3, 1) := by decide +kernel
theorem dX4_livingHeir_14 : decode cX4_livingHeir 14 = .ok (.iconst 0, 1) := by decide +kernel
theorem dX4_livingHeir_15 : decode cX4_livingHeir 15 = .ok (.istore 4, 2) := by decide +kernel
theorem dX4_livingHeir_17 : decode cX4_livingHeir 17 = .ok (.iload 4, 2) := by decide +kernel
theorem dX4_livingHeir_19 : decode cX4_livingHeir 19 = .ok (.iload_n 3, 1) := by decide +kernel
theorem dX4_livingHeir_20 : decode cX4_livingHeir 20 = .ok (.if_icmp .ge 33, 3) := by decide +kernel
theorem dX4_livingHeir_23 : decode cX4_livingHeir 23 = .ok (.aload_n 2, 1) := by decide +kernel
theorem dX4_livingHeir_24 : decode cX4_livingHeir 24 = .ok (.iload 4, 2) := by decide +kernel
theorem dX4_livingHeir_26 : decode cX4_livingHeir 26 = .ok (.aaload, 1) := by decide +kernel
theorem dX4_livingHeir_27 : decode cX4_livingHeir 27 = .ok (.astore 5, 2) := by decide +kernel
theorem dX4_livingHeir_29 : decode cX4_livingHeir 29 = .ok (.aload 5, 2) := by decide +kernel
theorem dX4_livingHeir_31 : decode cX4_livingHeir 31 = .ok (.iload_n 1, 1) := by decide +kernel
theorem dX4_livingHeir_32 : decode cX4_livingHeir 32 = .ok (.iconst 1, 1) := by decide +kernel
theorem dX4_livingHeir_33 : decode cX4_livingHeir 33 = .ok (.isub, 1) := by decide +kernel
theorem dX4_livingHeir_34 : decode cX4_livingHeir 34 = .ok (.invokestatic 184, 3) := by decide +kernel
theorem dX4_livingHeir_37 : decode cX4_livingHeir 37 = .ok (.astore 6, 2) := by decide +kernel
theorem dX4_livingHeir_39 : decode cX4_livingHeir 39 = .ok (.aload 6, 2) := by decide +kernel
theorem dX4_livingHeir_41 : decode cX4_livingHeir 41 = .ok (.ifnull 6, 3) := by decide +kernel
theorem dX4_livingHeir_44 : decode cX4_livingHeir 44 = .ok (.aload 6, 2) := by decide +kernel
theorem dX4_livingHeir_46 : decode cX4_livingHeir 46 = .ok (.areturn, 1) := by decide +kernel
theorem dX4_livingHeir_47 : decode cX4_livingHeir 47 = .ok (.iinc 4 1, 3) := by decide +kernel
theorem dX4_livingHeir_50 : decode cX4_livingHeir 50 = .ok (.goto (-33), 3) := by decide +kernel
theorem dX4_livingHeir_53 : decode cX4_livingHeir 53 = .ok (.aconst_null, 1) := by decide +kernel
theorem dX4_livingHeir_54 : decode cX4_livingHeir 54 = .ok (.areturn, 1) := by decide +kernel
set_option maxRecDepth 20000 in
theorem ggX4_livingFor_X4_livingHeir : GoodIn wsX4_livingFor wsX4_livingHeir := goodIn_r _ [5, 6, 7, 8, 4, 0, 1, 2, 3, 9, 10, 11, 12, 13, 14] (by decide +kernel) (by decide +kernel)
set_option maxRecDepth 20000 in
theorem gX4_livingFor_X4_livingHeir : GoodIn wsX4_livingFor (va_wsS RX4 145 yX4_livingHeir wsX4_livingHeir) := goodIn_app (goodIn_of _ (by decide +kernel)) ggX4_livingFor_X4_livingHeir
theorem dX4_livingFor_0 : decode cX4_livingFor 0 = .ok (.aload_n 0, 1) := by decide +kernel
theorem dX4_livingFor_1 : decode cX4_livingFor 1 = .ok (.ifnull 10, 3) := by decide +kernel
theorem dX4_livingFor_4 : decode cX4_livingFor 4 = .ok (.aload_n 0, 1) := by decide +kernel
theorem dX4_livingFor_5 : decode cX4_livingFor 5 = .ok (.getfield 56, 3) := by decide +kernel
theorem dX4_livingFor_8 : decode cX4_livingFor 8 = .ok (.ifCond .ne 5, 3) := by decide +kernel
theorem dX4_livingFor_11 : decode cX4_livingFor 11 = .ok (.aload_n 0, 1) := by decide +kernel
theorem dX4_livingFor_12 : decode cX4_livingFor 12 = .ok (.areturn, 1) := by decide +kernel
theorem dX4_livingFor_13 : decode cX4_livingFor 13 = .ok (.aload_n 0, 1) := by decide +kernel
theorem dX4_livingFor_14 : decode cX4_livingFor 14 = .ok (.iload_n 1, 1) := by decide +kernel
theorem dX4_livingFor_15 : decode cX4_livingFor 15 = .ok (.invokestatic 145, 3) := by decide +kernel
theorem dX4_livingFor_18 : decode cX4_livingFor 18 = .ok (.areturn, 1) := by decide +kernel
set_option maxRecDepth 20000 in
theorem ggX4_takesAway_X4_isDarkFor : GoodIn wsX4_takesAway wsX4_isDarkFor := goodIn_r _ [11, 12, 13, 14, 15, 16, 17, 18, 19, 20, 21, 22, 32, 33, 34, 35, 36, 37, 38, 39, 40, 41, 42, 43, 44, 45, 46, 47, 48, 49] (by decide +kernel) (by decide +kernel)
set_option maxRecDepth 20000 in
theorem gX4_takesAway_X4_isDarkFor : GoodIn wsX4_takesAway (wsV RX4 141 RX4 yX4_isDarkFor wsX4_isDarkFor) := goodIn_app (goodIn_of _ (by decide +kernel)) ggX4_takesAway_X4_isDarkFor
theorem dX4_takesAway_0 : decode cX4_takesAway 0 = .ok (.aload_n 1, 1) := by decide +kernel
theorem dX4_takesAway_1 : decode cX4_takesAway 1 = .ok (.getfield 210, 3) := by decide +kernel
theorem dX4_takesAway_4 : decode cX4_takesAway 4 = .ok (.astore_n 2, 1) := by decide +kernel
theorem dX4_takesAway_5 : decode cX4_takesAway 5 = .ok (.aload_n 2, 1) := by decide +kernel
theorem dX4_takesAway_6 : decode cX4_takesAway 6 = .ok (.ifnonnull 5, 3) := by decide +kernel
theorem dX4_takesAway_9 : decode cX4_takesAway 9 = .ok (.iconst 0, 1) := by decide +kernel
theorem dX4_takesAway_10 : decode cX4_takesAway 10 = .ok (.ireturn, 1) := by decide +kernel
theorem dX4_takesAway_11 : decode cX4_takesAway 11 = .ok (.aload_n 1, 1) := by decide +kernel
theorem dX4_takesAway_12 : decode cX4_takesAway 12 = .ok (.getfield 130, 3) := by decide +kernel
theorem dX4_takesAway_15 : decode cX4_takesAway 15 = .ok (.ifCond .ne 35, 3) := by decide +kernel
theorem dX4_takesAway_18 : decode cX4_takesAway 18 = .ok (.aload_n 1, 1) := by decide +kernel
theorem dX4_takesAway_19 : decode cX4_takesAway 19 = .ok (.getfield 135, 3) := by decide +kernel
theorem dX4_takesAway_22 : decode cX4_takesAway 22 = .ok (.ifCond .ne 26, 3) := by decide +kernel
theorem dX4_takesAway_25 : decode cX4_takesAway 25 = .ok (.aload_n 0, 1) := by decide +kernel
theorem dX4_takesAway_26 : decode cX4_takesAway 26 = .ok (.aload_n 2, 1) := by decide +kernel
theorem dX4_takesAway_27 : decode cX4_takesAway 27 = .ok (.getfield 213, 3) := by decide +kernel
theorem dX4_takesAway_30 : decode cX4_takesAway 30 = .ok (.aload_n 1, 1) := by decide +kernel
theorem dX4_takesAway_31 : decode cX4_takesAway 31 = .ok (.getfield 217, 3) := by decide +kernel
theorem dX4_takesAway_34 : decode cX4_takesAway 34 = .ok (.aload_n 1, 1) := by decide +kernel
theorem dX4_takesAway_35 : decode cX4_takesAway 35 = .ok (.getfield 220, 3) := by decide +kernel
theorem dX4_takesAway_38 : decode cX4_takesAway 38 = .ok (.invokevirtual 141, 3) := by decide +kernel
theorem dX4_takesAway_41 : decode cX4_takesAway 41 = .ok (.ifCond .eq 7, 3) := by decide +kernel
theorem dX4_takesAway_44 : decode cX4_takesAway 44 = .ok (.iconst 1, 1) := by decide +kernel
theorem dX4_takesAway_45 : decode cX4_takesAway 45 = .ok (.goto 4, 3) := by decide +kernel
theorem dX4_takesAway_48 : decode cX4_takesAway 48 = .ok (.iconst 0, 1) := by decide +kernel
theorem dX4_takesAway_49 : decode cX4_takesAway 49 = .ok (.ireturn, 1) := by decide +kernel
theorem dX4_takesAway_50 : decode cX4_takesAway 50 = .ok (.aload_n 1, 1) := by decide +kernel
theorem dX4_takesAway_51 : decode cX4_takesAway 51 = .ok (.getfield 130, 3) := by decide +kernel
theorem dX4_takesAway_54 : decode cX4_takesAway 54 = .ok (.iconst 3, 1) := by decide +kernel
theorem dX4_takesAway_55 : decode cX4_takesAway 55 = .ok (.if_icmp .eq 19, 3) := by decide +kernel
theorem dX4_takesAway_58 : decode cX4_takesAway 58 = .ok (.aload_n 1, 1) := by decide +kernel
theorem dX4_takesAway_59 : decode cX4_takesAway 59 = .ok (.getfield 130, 3) := by decide +kernel
theorem dX4_takesAway_62 : decode cX4_takesAway 62 = .ok (.iconst 4, 1) := by decide +kernel
theorem dX4_takesAway_63 : decode cX4_takesAway 63 = .ok (.if_icmp .eq 11, 3) := by decide +kernel
theorem dX4_takesAway_66 : decode cX4_takesAway 66 = .ok (.aload_n 1, 1) := by decide +kernel
theorem dX4_takesAway_67 : decode cX4_takesAway 67 = .ok (.getfield 130, 3) := by decide +kernel
theorem dX4_takesAway_70 : decode cX4_takesAway 70 = .ok (.iconst 5, 1) := by decide +kernel
theorem dX4_takesAway_71 : decode cX4_takesAway 71 = .ok (.if_icmp .ne 7, 3) := by decide +kernel
theorem dX4_takesAway_74 : decode cX4_takesAway 74 = .ok (.iconst 1, 1) := by decide +kernel
theorem dX4_takesAway_75 : decode cX4_takesAway 75 = .ok (.goto 4, 3) := by decide +kernel
theorem dX4_takesAway_78 : decode cX4_takesAway 78 = .ok (.iconst 0, 1) := by decide +kernel
theorem dX4_takesAway_79 : decode cX4_takesAway 79 = .ok (.ireturn, 1) := by decide +kernel
theorem dX4_isKeptInGoodFaith_0 : decode cX4_isKeptInGoodFaith 0 = .ok (.aload_n 0, 1) := by decide +kernel
theorem dX4_isKeptInGoodFaith_1 : decode cX4_isKeptInGoodFaith 1 = .ok (.getfield 21, 3) := by decide +kernel
theorem dX4_isKeptInGoodFaith_4 : decode cX4_isKeptInGoodFaith 4 = .ok (.aload_n 1, 1) := by decide +kernel
theorem dX4_isKeptInGoodFaith_5 : decode cX4_isKeptInGoodFaith 5 = .ok (.getfield 217, 3) := by decide +kernel
theorem dX4_isKeptInGoodFaith_8 : decode cX4_isKeptInGoodFaith 8 = .ok (.iaload, 1) := by decide +kernel
theorem dX4_isKeptInGoodFaith_9 : decode cX4_isKeptInGoodFaith 9 = .ok (.istore_n 2, 1) := by decide +kernel
theorem dX4_isKeptInGoodFaith_10 : decode cX4_isKeptInGoodFaith 10 = .ok (.aload_n 1, 1) := by decide +kernel
theorem dX4_isKeptInGoodFaith_11 : decode cX4_isKeptInGoodFaith 11 = .ok (.getfield 166, 3) := by decide +kernel
theorem dX4_isKeptInGoodFaith_14 : decode cX4_isKeptInGoodFaith 14 = .ok (.ifnonnull 10, 3) := by decide +kernel
theorem dX4_isKeptInGoodFaith_17 : decode cX4_isKeptInGoodFaith 17 = .ok (.aload_n 0, 1) := by decide +kernel
theorem dX4_isKeptInGoodFaith_18 : decode cX4_isKeptInGoodFaith 18 = .ok (.getfield 25, 3) := by decide +kernel
theorem dX4_isKeptInGoodFaith_21 : decode cX4_isKeptInGoodFaith 21 = .ok (.goto 10, 3) := by decide +kernel
theorem dX4_isKeptInGoodFaith_24 : decode cX4_isKeptInGoodFaith 24 = .ok (.aload_n 1, 1) := by decide +kernel
theorem dX4_isKeptInGoodFaith_25 : decode cX4_isKeptInGoodFaith 25 = .ok (.getfield 166, 3) := by decide +kernel
theorem dX4_isKeptInGoodFaith_28 : decode cX4_isKeptInGoodFaith 28 = .ok (.getfield 220, 3) := by decide +kernel
theorem dX4_isKeptInGoodFaith_31 : decode cX4_isKeptInGoodFaith 31 = .ok (.istore_n 3, 1) := by decide +kernel
theorem dX4_isKeptInGoodFaith_32 : decode cX4_isKeptInGoodFaith 32 = .ok (.aload_n 1, 1) := by decide +kernel
theorem dX4_isKeptInGoodFaith_33 : decode cX4_isKeptInGoodFaith 33 = .ok (.getfield 130, 3) := by decide +kernel
theorem dX4_isKeptInGoodFaith_36 : decode cX4_isKeptInGoodFaith 36 = .ok (.ifCond .ne 21, 3) := by decide +kernel
theorem dX4_isKeptInGoodFaith_39 : decode cX4_isKeptInGoodFaith 39 = .ok (.iload_n 2, 1) := by decide +kernel
theorem dX4_isKeptInGoodFaith_40 : decode cX4_isKeptInGoodFaith 40 = .ok (.ifCond .le 17, 3) := by decide +kernel
theorem dX4_isKeptInGoodFaith_43 : decode cX4_isKeptInGoodFaith 43 = .ok (.iload_n 3, 1) := by decide +kernel
theorem dX4_isKeptInGoodFaith_44 : decode cX4_isKeptInGoodFaith 44 = .ok (.aload_n 1, 1) := by decide +kernel
theorem dX4_isKeptInGoodFaith_45 : decode cX4_isKeptInGoodFaith 45 = .ok (.getfield 220, 3) := by decide +kernel
theorem dX4_isKeptInGoodFaith_48 : decode cX4_isKeptInGoodFaith 48 = .ok (.isub, 1) := by decide +kernel
theorem dX4_isKeptInGoodFaith_49 : decode cX4_isKeptInGoodFaith 49 = .ok (.iload_n 2, 1) := by decide +kernel
theorem dX4_isKeptInGoodFaith_50 : decode cX4_isKeptInGoodFaith 50 = .ok (.if_icmp .lt 7, 3) := by decide +kernel
theorem dX4_isKeptInGoodFaith_53 : decode cX4_isKeptInGoodFaith 53 = .ok (.iconst 1, 1) := by decide +kernel
theorem dX4_isKeptInGoodFaith_54 : decode cX4_isKeptInGoodFaith 54 = .ok (.goto 4, 3) := by decide +kernel
theorem dX4_isKeptInGoodFaith_57 : decode cX4_isKeptInGoodFaith 57 = .ok (.iconst 0, 1) := by decide +kernel
theorem dX4_isKeptInGoodFaith_58 : decode cX4_isKeptInGoodFaith 58 = .ok (.ireturn, 1) := by decide +kernel
set_option maxRecDepth 20000 in
theorem ggX4_titleFromFirst_X4_bringsTitle : GoodIn wsX4_titleFromFirst wsX4_bringsTitle := goodIn_r _ [8, 9, 10, 2, 11, 12, 13, 7, 14, 15, 16, 17, 18, 19, 20, 21, 22, 23, 24, 25, 26, 27, 28, 29, 30, 31, 32, 33, 34, 35, 36, 37, 38, 3, 39, 46, 47, 48, 49, 50, 51, 52, 53, 54, 55, 56, 57, 58, 59, 60, 61, 62, 63, 64, 65, 66, 67, 68, 69, 70, 71, 72] (by decide +kernel) (by decide +kernel)
set_option maxRecDepth 20000 in
theorem gX4_titleFromFirst_X4_bringsTitle : GoodIn wsX4_titleFromFirst (wsV RX4 223 RX4 yX4_bringsTitle wsX4_bringsTitle) := goodIn_app (goodIn_of _ (by decide +kernel)) ggX4_titleFromFirst_X4_bringsTitle
theorem dX4_titleFromFirst_0 : decode cX4_titleFromFirst 0 = .ok (.aload_n 1, 1) := by decide +kernel
theorem dX4_titleFromFirst_1 : decode cX4_titleFromFirst 1 = .ok (.getfield 162, 3) := by decide +kernel
theorem dX4_titleFromFirst_4 : decode cX4_titleFromFirst 4 = .ok (.ifnonnull 5, 3) := by decide +kernel
theorem dX4_titleFromFirst_7 : decode cX4_titleFromFirst 7 = .ok (.aconst_null, 1) := by decide +kernel
theorem dX4_titleFromFirst_8 : decode cX4_titleFromFirst 8 = .ok (.areturn, 1) := by decide +kernel
theorem dX4_titleFromFirst_9 : decode cX4_titleFromFirst 9 = .ok (.aload_n 1, 1) := by decide +kernel
theorem dX4_titleFromFirst_10 : decode cX4_titleFromFirst 10 = .ok (.getfield 162, 3) := by decide +kernel
theorem dX4_titleFromFirst_13 : decode cX4_titleFromFirst 13 = .ok (.getfield 213, 3) := by decide +kernel
theorem dX4_titleFromFirst_16 : decode cX4_titleFromFirst 16 = .ok (.astore_n 2, 1) := by decide +kernel
theorem dX4_titleFromFirst_17 : decode cX4_titleFromFirst 17 = .ok (.aload_n 1, 1) := by decide +kernel
theorem dX4_titleFromFirst_18 : decode cX4_titleFromFirst 18 = .ok (.getfield 162, 3) := by decide +kernel
theorem dX4_titleFromFirst_21 : decode cX4_titleFromFirst 21 = .ok (.getfield 166, 3) := by decide +kernel
theorem dX4_titleFromFirst_24 : decode cX4_titleFromFirst 24 = .ok (.astore_n 3, 1) := by decide +kernel
theorem dX4_titleFromFirst_25 : decode cX4_titleFromFirst 25 = .ok (.aload_n 3, 1) := by decide +kernel
theorem dX4_titleFromFirst_26 : decode cX4_titleFromFirst 26 = .ok (.ifnull 25, 3) := by decide +kernel
theorem dX4_titleFromFirst_29 : decode cX4_titleFromFirst 29 = .ok (.aload_n 0, 1) := by decide +kernel
theorem dX4_titleFromFirst_30 : decode cX4_titleFromFirst 30 = .ok (.aload_n 3, 1) := by decide +kernel
theorem dX4_titleFromFirst_31 : decode cX4_titleFromFirst 31 = .ok (.aload_n 2, 1) := by decide +kernel
theorem dX4_titleFromFirst_32 : decode cX4_titleFromFirst 32 = .ok (.invokevirtual 223, 3) := by decide +kernel
theorem dX4_titleFromFirst_35 : decode cX4_titleFromFirst 35 = .ok (.ifCond .eq 8, 3) := by decide +kernel
theorem dX4_titleFromFirst_38 : decode cX4_titleFromFirst 38 = .ok (.aload_n 3, 1) := by decide +kernel
theorem dX4_titleFromFirst_39 : decode cX4_titleFromFirst 39 = .ok (.getfield 213, 3) := by decide +kernel
theorem dX4_titleFromFirst_42 : decode cX4_titleFromFirst 42 = .ok (.astore_n 2, 1) := by decide +kernel
theorem dX4_titleFromFirst_43 : decode cX4_titleFromFirst 43 = .ok (.aload_n 3, 1) := by decide +kernel
theorem dX4_titleFromFirst_44 : decode cX4_titleFromFirst 44 = .ok (.getfield 166, 3) := by decide +kernel
theorem dX4_titleFromFirst_47 : decode cX4_titleFromFirst 47 = .ok (.astore_n 3, 1) := by decide +kernel
theorem dX4_titleFromFirst_48 : decode cX4_titleFromFirst 48 = .ok (.goto (-23), 3) := by decide +kernel
theorem dX4_titleFromFirst_51 : decode cX4_titleFromFirst 51 = .ok (.aload_n 2, 1) := by decide +kernel
theorem dX4_titleFromFirst_52 : decode cX4_titleFromFirst 52 = .ok (.areturn, 1) := by decide +kernel
set_option maxRecDepth 20000 in
theorem ggX4_bringsTitle_X4_takesAway : GoodIn wsX4_bringsTitle wsX4_takesAway := goodIn_r _ [8, 2, 9, 10, 3, 11, 12, 13, 14, 15, 7, 16, 17, 18, 19, 20, 21, 22, 23, 24, 25, 26, 27, 35, 36, 37, 38, 39, 40, 41, 42, 43, 44, 45, 46, 47, 48, 49, 50, 51, 52, 53, 54, 55, 56, 57, 58, 59, 60, 61] (by decide +kernel) (by decide +kernel)
set_option maxRecDepth 20000 in
theorem gX4_bringsTitle_X4_takesAway : GoodIn wsX4_bringsTitle (wsV RX4 172 RX4 yX4_takesAway wsX4_takesAway) := goodIn_app (goodIn_of _ (by decide +kernel)) ggX4_bringsTitle_X4_takesAway
set_option maxRecDepth 20000 in
theorem ggX4_bringsTitle_X4_isKeptInGoodFaith : GoodIn wsX4_bringsTitle wsX4_isKeptInGoodFaith := goodIn_r _ [31, 32, 11, 33, 34, 12, 9, 44, 45, 46, 47, 48, 49, 50, 51, 35, 36, 37, 38, 39, 40, 41, 42, 43] (by decide +kernel) (by decide +kernel)
set_option maxRecDepth 20000 in
theorem gX4_bringsTitle_X4_isKeptInGoodFaith : GoodIn wsX4_bringsTitle (wsV RX4 227 RX4 yX4_isKeptInGoodFaith wsX4_isKeptInGoodFaith) := goodIn_app (goodIn_of _ (by decide +kernel)) ggX4_bringsTitle_X4_isKeptInGoodFaith
theorem dX4_bringsTitle_0 : decode cX4_bringsTitle 0 = .ok (.aload_n 1, 1) := by decide +kernel
theorem dX4_bringsTitle_1 : decode cX4_bringsTitle 1 = .ok (.getfield 138, 3) := by decide +kernel
theorem dX4_bringsTitle_4 : decode cX4_bringsTitle 4 = .ok (.ifCond .eq 5, 3) := by decide +kernel
theorem dX4_bringsTitle_7 : decode cX4_bringsTitle 7 = .ok (.iconst 1, 1) := by decide +kernel
theorem dX4_bringsTitle_8 : decode cX4_bringsTitle 8 = .ok (.ireturn, 1) := by decide +kernel
theorem dX4_bringsTitle_9 : decode cX4_bringsTitle 9 = .ok (.aload_n 0, 1) := by decide +kernel
theorem dX4_bringsTitle_10 : decode cX4_bringsTitle 10 = .ok (.aload_n 1, 1) := by decide +kernel
theorem dX4_bringsTitle_11 : decode cX4_bringsTitle 11 = .ok (.invokevirtual 172, 3) := by decide +kernel
theorem dX4_bringsTitle_14 : decode cX4_bringsTitle 14 = .ok (.ifCond .eq 5, 3) := by decide +kernel
theorem dX4_bringsTitle_17 : decode cX4_bringsTitle 17 = .ok (.iconst 0, 1) := by decide +kernel
theorem dX4_bringsTitle_18 : decode cX4_bringsTitle 18 = .ok (.ireturn, 1) := by decide +kernel
theorem dX4_bringsTitle_19 : decode cX4_bringsTitle 19 = .ok (.aload_n 1, 1) := by decide +kernel
theorem dX4_bringsTitle_20 : decode cX4_bringsTitle 20 = .ok (.getfield 210, 3) := by decide +kernel
theorem dX4_bringsTitle_23 : decode cX4_bringsTitle 23 = .ok (.ifnull 18, 3) := by decide +kernel
theorem dX4_bringsTitle_26 : decode cX4_bringsTitle 26 = .ok (.aload_n 1, 1) := by decide +kernel
theorem dX4_bringsTitle_27 : decode cX4_bringsTitle 27 = .ok (.getfield 210, 3) := by decide +kernel
theorem dX4_bringsTitle_30 : decode cX4_bringsTitle 30 = .ok (.getfield 213, 3) := by decide +kernel
theorem dX4_bringsTitle_33 : decode cX4_bringsTitle 33 = .ok (.aload_n 2, 1) := by decide +kernel
theorem dX4_bringsTitle_34 : decode cX4_bringsTitle 34 = .ok (.if_acmp .ne 7, 3) := by decide +kernel
theorem dX4_bringsTitle_37 : decode cX4_bringsTitle 37 = .ok (.iconst 1, 1) := by decide +kernel
theorem dX4_bringsTitle_38 : decode cX4_bringsTitle 38 = .ok (.goto 4, 3) := by decide +kernel
theorem dX4_bringsTitle_41 : decode cX4_bringsTitle 41 = .ok (.iconst 0, 1) := by decide +kernel
theorem dX4_bringsTitle_42 : decode cX4_bringsTitle 42 = .ok (.istore_n 3, 1) := by decide +kernel
theorem dX4_bringsTitle_43 : decode cX4_bringsTitle 43 = .ok (.iload_n 3, 1) := by decide +kernel
theorem dX4_bringsTitle_44 : decode cX4_bringsTitle 44 = .ok (.ifCond .ne 11, 3) := by decide +kernel
theorem dX4_bringsTitle_47 : decode cX4_bringsTitle 47 = .ok (.aload_n 0, 1) := by decide +kernel
theorem dX4_bringsTitle_48 : decode cX4_bringsTitle 48 = .ok (.aload_n 1, 1) := by decide +kernel
theorem dX4_bringsTitle_49 : decode cX4_bringsTitle 49 = .ok (.invokevirtual 227, 3) := by decide +kernel
theorem dX4_bringsTitle_52 : decode cX4_bringsTitle 52 = .ok (.ifCond .eq 7, 3) := by decide +kernel
theorem dX4_bringsTitle_55 : decode cX4_bringsTitle 55 = .ok (.iconst 1, 1) := by decide +kernel
theorem dX4_bringsTitle_56 : decode cX4_bringsTitle 56 = .ok (.goto 4, 3) := by decide +kernel
theorem dX4_bringsTitle_59 : decode cX4_bringsTitle 59 = .ok (.iconst 0, 1) := by decide +kernel
theorem dX4_bringsTitle_60 : decode cX4_bringsTitle 60 = .ok (.ireturn, 1) := by decide +kernel
set_option maxRecDepth 20000 in
theorem ggX4_titleFromLast_X4_takesAway : GoodIn wsX4_titleFromLast wsX4_takesAway := goodIn_r _ [10, 4, 11, 12, 2, 13, 14, 15, 16, 17, 9, 18, 19, 20, 21, 22, 23, 24, 25, 26, 27, 28, 29, 43, 44, 45, 46, 47, 48, 49, 50, 51, 58, 59, 60, 61, 62, 63, 64, 65, 52, 53, 54, 55, 56, 57, 66, 67, 68, 69] (by decide +kernel) (by decide +kernel)
set_option maxRecDepth 20000 in
theorem gX4_titleFromLast_X4_takesAway : GoodIn wsX4_titleFromLast (wsV RX4 172 RX4 yX4_takesAway wsX4_takesAway) := goodIn_app (goodIn_of _ (by decide +kernel)) ggX4_titleFromLast_X4_takesAway
set_option maxRecDepth 20000 in
theorem ggX4_titleFromLast_X4_isKeptInGoodFaith : GoodIn wsX4_titleFromLast wsX4_isKeptInGoodFaith := goodIn_r _ [33, 34, 13, 35, 36, 14, 11, 58, 59, 60, 61, 62, 63, 64, 65, 43, 44, 45, 46, 47, 48, 49, 50, 51] (by decide +kernel) (by decide +kernel)
set_option maxRecDepth 20000 in
theorem gX4_titleFromLast_X4_isKeptInGoodFaith : GoodIn wsX4_titleFromLast (wsV RX4 227 RX4 yX4_isKeptInGoodFaith wsX4_isKeptInGoodFaith) := goodIn_app (goodIn_of _ (by decide +kernel)) ggX4_titleFromLast_X4_isKeptInGoodFaith
theorem dX4_titleFromLast_0 : decode cX4_titleFromLast 0 = .ok (.aload_n 1, 1) := by decide +kernel
theorem dX4_titleFromLast_1 : decode cX4_titleFromLast 1 = .ok (.getfield 230, 3) := by decide +kernel
theorem dX4_titleFromLast_4 : decode cX4_titleFromLast 4 = .ok (.astore_n 2, 1) := by decide +kernel
theorem dX4_titleFromLast_5 : decode cX4_titleFromLast 5 = .ok (.aload_n 2, 1) := by decide +kernel
theorem dX4_titleFromLast_6 : decode cX4_titleFromLast 6 = .ok (.ifnull 22, 3) := by decide +kernel
theorem dX4_titleFromLast_9 : decode cX4_titleFromLast 9 = .ok (.aload_n 2, 1) := by decide +kernel
theorem dX4_titleFromLast_10 : decode cX4_titleFromLast 10 = .ok (.getfield 213, 3) := by decide +kernel
theorem dX4_titleFromLast_13 : decode cX4_titleFromLast 13 = .ok (.aload_n 2, 1) := by decide +kernel
theorem dX4_titleFromLast_14 : decode cX4_titleFromLast 14 = .ok (.getfield 213, 3) := by decide +kernel
theorem dX4_titleFromLast_17 : decode cX4_titleFromLast 17 = .ok (.putfield 233, 3) := by decide +kernel
theorem dX4_titleFromLast_20 : decode cX4_titleFromLast 20 = .ok (.aload_n 2, 1) := by decide +kernel
theorem dX4_titleFromLast_21 : decode cX4_titleFromLast 21 = .ok (.getfield 210, 3) := by decide +kernel
theorem dX4_titleFromLast_24 : decode cX4_titleFromLast 24 = .ok (.astore_n 2, 1) := by decide +kernel
theorem dX4_titleFromLast_25 : decode cX4_titleFromLast 25 = .ok (.goto (-20), 3) := by decide +kernel
theorem dX4_titleFromLast_28 : decode cX4_titleFromLast 28 = .ok (.aload_n 1, 1) := by decide +kernel
theorem dX4_titleFromLast_29 : decode cX4_titleFromLast 29 = .ok (.getfield 230, 3) := by decide +kernel
theorem dX4_titleFromLast_32 : decode cX4_titleFromLast 32 = .ok (.astore_n 2, 1) := by decide +kernel
theorem dX4_titleFromLast_33 : decode cX4_titleFromLast 33 = .ok (.aload_n 2, 1) := by decide +kernel
theorem dX4_titleFromLast_34 : decode cX4_titleFromLast 34 = .ok (.ifnull 76, 3) := by decide +kernel
theorem dX4_titleFromLast_37 : decode cX4_titleFromLast 37 = .ok (.aload_n 2, 1) := by decide +kernel
theorem dX4_titleFromLast_38 : decode cX4_titleFromLast 38 = .ok (.getfield 210, 3) := by decide +kernel
theorem dX4_titleFromLast_41 : decode cX4_titleFromLast 41 = .ok (.astore_n 3, 1) := by decide +kernel
theorem dX4_titleFromLast_42 : decode cX4_titleFromLast 42 = .ok (.aload_n 3, 1) := by decide +kernel
theorem dX4_titleFromLast_43 : decode cX4_titleFromLast 43 = .ok (.ifnull 10, 3) := by decide +kernel
theorem dX4_titleFromLast_46 : decode cX4_titleFromLast 46 = .ok (.aload_n 2, 1) := by decide +kernel
theorem dX4_titleFromLast_47 : decode cX4_titleFromLast 47 = .ok (.getfield 138, 3) := by decide +kernel
theorem dX4_titleFromLast_50 : decode cX4_titleFromLast 50 = .ok (.ifCond .eq 11, 3) := by decide +kernel
theorem dX4_titleFromLast_53 : decode cX4_titleFromLast 53 = .ok (.aload_n 2, 1) := by decide +kernel
theorem dX4_titleFromLast_54 : decode cX4_titleFromLast 54 = .ok (.getfield 213, 3) := by decide +kernel
theorem dX4_titleFromLast_57 : decode cX4_titleFromLast 57 = .ok (.getfield 233, 3) := by decide +kernel
theorem dX4_titleFromLast_60 : decode cX4_titleFromLast 60 = .ok (.areturn, 1) := by decide +kernel
theorem dX4_titleFromLast_61 : decode cX4_titleFromLast 61 = .ok (.aload_n 0, 1) := by decide +kernel
theorem dX4_titleFromLast_62 : decode cX4_titleFromLast 62 = .ok (.aload_n 2, 1) := by decide +kernel
theorem dX4_titleFromLast_63 : decode cX4_titleFromLast 63 = .ok (.invokevirtual 172, 3) := by decide +kernel
theorem dX4_titleFromLast_66 : decode cX4_titleFromLast 66 = .ok (.ifCond .eq 6, 3) := by decide +kernel
theorem dX4_titleFromLast_69 : decode cX4_titleFromLast 69 = .ok (.goto 33, 3) := by decide +kernel
theorem dX4_titleFromLast_72 : decode cX4_titleFromLast 72 = .ok (.aload_n 0, 1) := by decide +kernel
theorem dX4_titleFromLast_73 : decode cX4_titleFromLast 73 = .ok (.aload_n 2, 1) := by decide +kernel
theorem dX4_titleFromLast_74 : decode cX4_titleFromLast 74 = .ok (.invokevirtual 227, 3) := by decide +kernel
theorem dX4_titleFromLast_77 : decode cX4_titleFromLast 77 = .ok (.ifCond .eq 11, 3) := by decide +kernel
theorem dX4_titleFromLast_80 : decode cX4_titleFromLast 80 = .ok (.aload_n 2, 1) := by decide +kernel
theorem dX4_titleFromLast_81 : decode cX4_titleFromLast 81 = .ok (.getfield 213, 3) := by decide +kernel
theorem dX4_titleFromLast_84 : decode cX4_titleFromLast 84 = .ok (.getfield 233, 3) := by decide +kernel
theorem dX4_titleFromLast_87 : decode cX4_titleFromLast 87 = .ok (.areturn, 1) := by decide +kernel
theorem dX4_titleFromLast_88 : decode cX4_titleFromLast 88 = .ok (.aload_n 3, 1) := by decide +kernel
theorem dX4_titleFromLast_89 : decode cX4_titleFromLast 89 = .ok (.getfield 213, 3) := by decide +kernel
theorem dX4_titleFromLast_92 : decode cX4_titleFromLast 92 = .ok (.aload_n 2, 1) := by decide +kernel
theorem dX4_titleFromLast_93 : decode cX4_titleFromLast 93 = .ok (.getfield 213, 3) := by decide +kernel
theorem dX4_titleFromLast_96 : decode cX4_titleFromLast 96 = .ok (.getfield 233, 3) := by decide +kernel
theorem dX4_titleFromLast_99 : decode cX4_titleFromLast 99 = .ok (.putfield 233, 3) := by decide +kernel
theorem dX4_titleFromLast_102 : decode cX4_titleFromLast 102 = .ok (.aload_n 2, 1) := by decide +kernel
theorem dX4_titleFromLast_103 : decode cX4_titleFromLast 103 = .ok (.getfield 210, 3) := by decide +kernel
theorem dX4_titleFromLast_106 : decode cX4_titleFromLast 106 = .ok (.astore_n 2, 1) := by decide +kernel
theorem dX4_titleFromLast_107 : decode cX4_titleFromLast 107 = .ok (.goto (-74), 3) := by decide +kernel
theorem dX4_titleFromLast_110 : decode cX4_titleFromLast 110 = .ok (.aconst_null, 1) := by decide +kernel
theorem dX4_titleFromLast_111 : decode cX4_titleFromLast 111 = .ok (.areturn, 1) := by decide +kernel
theorem dX5_init_0 : decode cX5_init 0 = .ok (.aload_n 0, 1) := by decide +kernel
theorem dX5_init_1 : decode cX5_init 1 = .ok (.invokespecial 1, 3) := by decide +kernel
theorem dX5_init_4 : decode cX5_init 4 = .ok (.aload_n 0, 1) := by decide +kernel
theorem dX5_init_5 : decode cX5_init 5 = .ok (.sipush 1900, 3) := by decide +kernel
theorem dX5_init_8 : decode cX5_init 8 = .ok (.putfield 7, 3) := by decide +kernel
theorem dX5_init_11 : decode cX5_init 11 = .ok (.aload_n 0, 1) := by decide +kernel
theorem dX5_init_12 : decode cX5_init 12 = .ok (.bipush 12, 2) := by decide +kernel
theorem dX5_init_14 : decode cX5_init 14 = .ok (.newarray .int, 2) := by decide +kernel
theorem dX5_init_16 : decode cX5_init 16 = .ok (.putfield 13, 3) := by decide +kernel
theorem dX5_init_19 : decode cX5_init 19 = .ok (.aload_n 0, 1) := by decide +kernel
theorem dX5_init_20 : decode cX5_init 20 = .ok (.bipush 12, 2) := by decide +kernel
theorem dX5_init_22 : decode cX5_init 22 = .ok (.newarray .boolean, 2) := by decide +kernel
theorem dX5_init_24 : decode cX5_init 24 = .ok (.putfield 17, 3) := by decide +kernel
theorem dX5_init_27 : decode cX5_init 27 = .ok (.aload_n 0, 1) := by decide +kernel
theorem dX5_init_28 : decode cX5_init 28 = .ok (.sipush 144, 3) := by decide +kernel
theorem dX5_init_31 : decode cX5_init 31 = .ok (.newarray .int, 2) := by decide +kernel
theorem dX5_init_33 : decode cX5_init 33 = .ok (.putfield 21, 3) := by decide +kernel
theorem dX5_init_36 : decode cX5_init 36 = .ok (.aload_n 0, 1) := by decide +kernel
theorem dX5_init_37 : decode cX5_init 37 = .ok (.bipush 12, 2) := by decide +kernel
theorem dX5_init_39 : decode cX5_init 39 = .ok (.newarray .int, 2) := by decide +kernel
theorem dX5_init_41 : decode cX5_init 41 = .ok (.putfield 24, 3) := by decide +kernel
theorem dX5_init_44 : decode cX5_init 44 = .ok (.aload_n 0, 1) := by decide +kernel
theorem dX5_init_45 : decode cX5_init 45 = .ok (.bipush 80, 2) := by decide +kernel
theorem dX5_init_47 : decode cX5_init 47 = .ok (.newarray .int, 2) := by decide +kernel
theorem dX5_init_49 : decode cX5_init 49 = .ok (.putfield 27, 3) := by decide +kernel
theorem dX5_init_52 : decode cX5_init 52 = .ok (.aload_n 0, 1) := by decide +kernel
theorem dX5_init_53 : decode cX5_init 53 = .ok (.iconst 5, 1) := by decide +kernel
theorem dX5_init_54 : decode cX5_init 54 = .ok (.newarray .int, 2) := by decide +kernel
theorem dX5_init_56 : decode cX5_init 56 = .ok (.putfield 30, 3) := by decide +kernel
theorem dX5_init_59 : decode cX5_init 59 = .ok (.aload_n 0, 1) := by decide +kernel
theorem dX5_init_60 : decode cX5_init 60 = .ok (.bipush 10, 2) := by decide +kernel
theorem dX5_init_62 : decode cX5_init 62 = .ok (.newarray .int, 2) := by decide +kernel
theorem dX5_init_64 : decode cX5_init 64 = .ok (.putfield 33, 3) := by decide +kernel
theorem dX5_init_67 : decode cX5_init 67 = .ok (.aload_n 0, 1) := by decide +kernel
theorem dX5_init_68 : decode cX5_init 68 = .ok (.bipush 10, 2) := by decide +kernel
theorem dX5_init_70 : decode cX5_init 70 = .ok (.newarray .int, 2) := by decide +kernel
theorem dX5_init_72 : decode cX5_init 72 = .ok (.putfield 36, 3) := by decide +kernel
theorem dX5_init_75 : decode cX5_init 75 = .ok (.aload_n 0, 1) := by decide +kernel
theorem dX5_init_76 : decode cX5_init 76 = .ok (.bipush 10, 2) := by decide +kernel
theorem dX5_init_78 : decode cX5_init 78 = .ok (.newarray .int, 2) := by decide +kernel
theorem dX5_init_80 : decode cX5_init 80 = .ok (.putfield 39, 3) := by decide +kernel
theorem dX5_init_83 : decode cX5_init 83 = .ok (.aload_n 0, 1) := by decide +kernel
theorem dX5_init_84 : decode cX5_init 84 = .ok (.bipush 80, 2) := by decide +kernel
theorem dX5_init_86 : decode cX5_init 86 = .ok (.newarray .int, 2) := by decide +kernel
theorem dX5_init_88 : decode cX5_init 88 = .ok (.putfield 42, 3) := by decide +kernel
theorem dX5_init_91 : decode cX5_init 91 = .ok (.aload_n 0, 1) := by decide +kernel
theorem dX5_init_92 : decode cX5_init 92 = .ok (.bipush 80, 2) := by decide +kernel
theorem dX5_init_94 : decode cX5_init 94 = .ok (.newarray .int, 2) := by decide +kernel
theorem dX5_init_96 : decode cX5_init 96 = .ok (.putfield 45, 3) := by decide +kernel
theorem dX5_init_99 : decode cX5_init 99 = .ok (.aload_n 0, 1) := by decide +kernel
theorem dX5_init_100 : decode cX5_init 100 = .ok (.bipush 80, 2) := by decide +kernel
theorem dX5_init_102 : decode cX5_init 102 = .ok (.newarray .int, 2) := by decide +kernel
theorem dX5_init_104 : decode cX5_init 104 = .ok (.putfield 48, 3) := by decide +kernel
theorem dX5_init_107 : decode cX5_init 107 = .ok (.aload_n 0, 1) := by decide +kernel
theorem dX5_init_108 : decode cX5_init 108 = .ok (.bipush 80, 2) := by decide +kernel
theorem dX5_init_110 : decode cX5_init 110 = .ok (.newarray .int, 2) := by decide +kernel
theorem dX5_init_112 : decode cX5_init 112 = .ok (.putfield 51, 3) := by decide +kernel
theorem dX5_init_115 : decode cX5_init 115 = .ok (.aload_n 0, 1) := by decide +kernel
theorem dX5_init_116 : decode cX5_init 116 = .ok (.bipush 80, 2) := by decide +kernel
theorem dX5_init_118 : decode cX5_init 118 = .ok (.newarray .boolean, 2) := by decide +kernel
theorem dX5_init_120 : decode cX5_init 120 = .ok (.putfield 54, 3) := by decide +kernel
theorem dX5_init_123 : decode cX5_init 123 = .ok (.aload_n 0, 1) := by decide +kernel
theorem dX5_init_124 : decode cX5_init 124 = .ok (.bipush 80, 2) := by decide +kernel
theorem dX5_init_126 : decode cX5_init 126 = .ok (.newarray .boolean, 2) := by decide +kernel
theorem dX5_init_128 : decode cX5_init 128 = .ok (.putfield 57, 3) := by decide +kernel
theorem dX5_init_131 : decode cX5_init 131 = .ok (.aload_n 0, 1) := by decide +kernel
theorem dX5_init_132 : decode cX5_init 132 = .ok (.bipush 8, 2) := by decide +kernel
theorem dX5_init_134 : decode cX5_init 134 = .ok (.newarray .int, 2) := by decide +kernel
theorem dX5_init_136 : decode cX5_init 136 = .ok (.putfield 60, 3) := by decide +kernel
theorem dX5_init_139 : decode cX5_init 139 = .ok (.return_, 1) := by decide +kernel
theorem dX5_thrown_0 : decode cX5_thrown 0 = .ok (.aload_n 0, 1) := by decide +kernel
theorem dX5_thrown_1 : decode cX5_thrown 1 = .ok (.getfield 63, 3) := by decide +kernel
theorem dX5_thrown_4 : decode cX5_thrown 4 = .ok (.ireturn, 1) := by decide +kernel
theorem dX5_in_0 : decode cX5_in 0 = .ok (.iload_n 0, 1) := by decide +kernel
theorem dX5_in_1 : decode cX5_in 1 = .ok (.iload_n 1, 1) := by decide +kernel
theorem dX5_in_2 : decode cX5_in 2 = .ok (.if_icmp .lt 12, 3) := by decide +kernel
theorem dX5_in_5 : decode cX5_in 5 = .ok (.iload_n 0, 1) := by decide +kernel
theorem dX5_in_6 : decode cX5_in 6 = .ok (.iload_n 2, 1) := by decide +kernel
theorem dX5_in_7 : decode cX5_in 7 = .ok (.if_icmp .gt 7, 3) := by decide +kernel
theorem dX5_in_10 : decode cX5_in 10 = .ok (.iconst 1, 1) := by decide +kernel
theorem dX5_in_11 : decode cX5_in 11 = .ok (.goto 4, 3) := by decide +kernel
theorem dX5_in_14 : decode cX5_in 14 = .ok (.iconst 0, 1) := by decide +kernel
theorem dX5_in_15 : decode cX5_in 15 = .ok (.ireturn, 1) := by decide +kernel
theorem dX5_goes_0 : decode cX5_goes 0 = .ok (.aload_n 0, 1) := by decide +kernel
theorem dX5_goes_1 : decode cX5_goes 1 = .ok (.iload_n 1, 1) := by decide +kernel
theorem dX5_goes_2 : decode cX5_goes 2 = .ok (.ifCond .ne 7, 3) := by decide +kernel
theorem dX5_goes_5 : decode cX5_goes 5 = .ok (.iconst 1, 1) := by decide +kernel
theorem dX5_goes_6 : decode cX5_goes 6 = .ok (.goto 20, 3) := by decide +kernel
theorem dX5_goes_9 : decode cX5_goes 9 = .ok (.iload_n 2, 1) := by decide +kernel
theorem dX5_goes_10 : decode cX5_goes 10 = .ok (.ifCond .ne 7, 3) := by decide +kernel
theorem dX5_goes_13 : decode cX5_goes 13 = .ok (.iconst 2, 1) := by decide +kernel
theorem dX5_goes_14 : decode cX5_goes 14 = .ok (.goto 12, 3) := by decide +kernel
theorem dX5_goes_17 : decode cX5_goes 17 = .ok (.iload_n 3, 1) := by decide +kernel
theorem dX5_goes_18 : decode cX5_goes 18 = .ok (.ifCond .eq 7, 3) := by decide +kernel
theorem dX5_goes_21 : decode cX5_goes 21 = .ok (.iconst 0, 1) := by decide +kernel
theorem dX5_goes_22 : decode cX5_goes 22 = .ok (.goto 4, 3) := by decide +kernel
theorem dX5_goes_25 : decode cX5_goes 25 = .ok (.iconst 3, 1) := by decide +kernel
theorem dX5_goes_26 : decode cX5_goes 26 = .ok (.putfield 63, 3) := by decide +kernel
theorem dX5_goes_29 : decode cX5_goes 29 = .ok (.aload_n 0, 1) := by decide +kernel
theorem dX5_goes_30 : decode cX5_goes 30 = .ok (.getfield 63, 3) := by decide +kernel
theorem dX5_goes_33 : decode cX5_goes 33 = .ok (.ifCond .ne 7, 3) := by decide +kernel
theorem dX5_goes_36 : decode cX5_goes 36 = .ok (.iconst 1, 1) := by decide +kernel
theorem dX5_goes_37 : decode cX5_goes 37 = .ok (.goto 4, 3) := by decide +kernel
theorem dX5_goes_40 : decode cX5_goes 40 = .ok (.iconst 0, 1) := by decide +kernel
theorem dX5_goes_41 : decode cX5_goes 41 = .ok (.ireturn, 1) := by decide +kernel
set_option maxRecDepth 20000 in
theorem ggX5_isPerson_X5_in : GoodIn wsX5_isPerson wsX5_in := goodIn_r _ [5] (by decide +kernel) (by decide +kernel)
set_option maxRecDepth 20000 in
theorem gX5_isPerson_X5_in : GoodIn wsX5_isPerson (va_wsS RX5 69 yX5_in wsX5_in) := goodIn_app (goodIn_of _ (by decide +kernel)) ggX5_isPerson_X5_in
theorem dX5_isPerson_0 : decode cX5_isPerson 0 = .ok (.iload_n 1, 1) := by decide +kernel
theorem dX5_isPerson_1 : decode cX5_isPerson 1 = .ok (.iconst 0, 1) := by decide +kernel
theorem dX5_isPerson_2 : decode cX5_isPerson 2 = .ok (.aload_n 0, 1) := by decide +kernel
theorem dX5_isPerson_3 : decode cX5_isPerson 3 = .ok (.getfield 66, 3) := by decide +kernel
theorem dX5_isPerson_6 : decode cX5_isPerson 6 = .ok (.iconst 1, 1) := by decide +kernel
theorem dX5_isPerson_7 : decode cX5_isPerson 7 = .ok (.isub, 1) := by decide +kernel
theorem dX5_isPerson_8 : decode cX5_isPerson 8 = .ok (.invokestatic 69, 3) := by decide +kernel
theorem dX5_isPerson_11 : decode cX5_isPerson 11 = .ok (.ireturn, 1) := by decide +kernel
set_option maxRecDepth 20000 in
theorem ggX5_isLand_X5_in : GoodIn wsX5_isLand wsX5_in := goodIn_r _ [4] (by decide +kernel) (by decide +kernel)
set_option maxRecDepth 20000 in
theorem gX5_isLand_X5_in : GoodIn wsX5_isLand (va_wsS RX5 69 yX5_in wsX5_in) := goodIn_app (goodIn_of _ (by decide +kernel)) ggX5_isLand_X5_in
theorem dX5_isLand_0 : decode cX5_isLand 0 = .ok (.iload_n 0, 1) := by decide +kernel
theorem dX5_isLand_1 : decode cX5_isLand 1 = .ok (.iconst 0, 1) := by decide +kernel
theorem dX5_isLand_2 : decode cX5_isLand 2 = .ok (.iconst 4, 1) := by decide +kernel
theorem dX5_isLand_3 : decode cX5_isLand 3 = .ok (.invokestatic 69, 3) := by decide +kernel
theorem dX5_isLand_6 : decode cX5_isLand 6 = .ok (.ireturn, 1) := by decide +kernel
set_option maxRecDepth 20000 in
theorem ggX5_isThing_X5_in : GoodIn wsX5_isThing wsX5_in := goodIn_r _ [5] (by decide +kernel) (by decide +kernel)
set_option maxRecDepth 20000 in
theorem gX5_isThing_X5_in : GoodIn wsX5_isThing (va_wsS RX5 69 yX5_in wsX5_in) := goodIn_app (goodIn_of _ (by decide +kernel)) ggX5_isThing_X5_in
theorem dX5_isThing_0 : decode cX5_isThing 0 = .ok (.iload_n 1, 1) := by decide +kernel
theorem dX5_isThing_1 : decode cX5_isThing 1 = .ok (.iconst 0, 1) := by decide +kernel
theorem dX5_isThing_2 : decode cX5_isThing 2 = .ok (.aload_n 0, 1) := by decide +kernel
theorem dX5_isThing_3 : decode cX5_isThing 3 = .ok (.getfield 73, 3) := by decide +kernel
theorem dX5_isThing_6 : decode cX5_isThing 6 = .ok (.iconst 1, 1) := by decide +kernel
theorem dX5_isThing_7 : decode cX5_isThing 7 = .ok (.isub, 1) := by decide +kernel
theorem dX5_isThing_8 : decode cX5_isThing 8 = .ok (.invokestatic 69, 3) := by decide +kernel
theorem dX5_isThing_11 : decode cX5_isThing 11 = .ok (.ireturn, 1) := by decide +kernel
set_option maxRecDepth 20000 in
theorem ggX5_isStation_X5_isThing : GoodIn wsX5_isStation wsX5_isThing := goodIn_r _ [6, 7, 8, 9, 5, 10, 11, 12, 13, 14, 15, 16, 17, 18, 19, 20, 21, 22, 23, 24, 25, 26, 27, 28, 29, 30, 31] (by decide +kernel) (by decide +kernel)
set_option maxRecDepth 20000 in
theorem gX5_isStation_X5_isThing : GoodIn wsX5_isStation (wsV RX5 76 RX5 yX5_isThing wsX5_isThing) := goodIn_app (goodIn_of _ (by decide +kernel)) ggX5_isStation_X5_isThing
set_option maxRecDepth 20000 in
theorem ggX5_isStation_X5_in : GoodIn wsX5_isStation wsX5_in := goodIn_r _ [10] (by decide +kernel) (by decide +kernel)
set_option maxRecDepth 20000 in
theorem gX5_isStation_X5_in : GoodIn wsX5_isStation (va_wsS RX5 69 yX5_in wsX5_in) := goodIn_app (goodIn_of _ (by decide +kernel)) ggX5_isStation_X5_in
theorem dX5_isStation_0 : decode cX5_isStation 0 = .ok (.aload_n 0, 1) := by decide +kernel
theorem dX5_isStation_1 : decode cX5_isStation 1 = .ok (.iload_n 1, 1) := by decide +kernel
theorem dX5_isStation_2 : decode cX5_isStation 2 = .ok (.invokevirtual 76, 3) := by decide +kernel
theorem dX5_isStation_5 : decode cX5_isStation 5 = .ok (.ifCond .eq 23, 3) := by decide +kernel
theorem dX5_isStation_8 : decode cX5_isStation 8 = .ok (.iload_n 2, 1) := by decide +kernel
theorem dX5_isStation_9 : decode cX5_isStation 9 = .ok (.iconst 0, 1) := by decide +kernel
theorem dX5_isStation_10 : decode cX5_isStation 10 = .ok (.aload_n 0, 1) := by decide +kernel
theorem dX5_isStation_11 : decode cX5_isStation 11 = .ok (.getfield 39, 3) := by decide +kernel
theorem dX5_isStation_14 : decode cX5_isStation 14 = .ok (.iload_n 1, 1) := by decide +kernel
theorem dX5_isStation_15 : decode cX5_isStation 15 = .ok (.iaload, 1) := by decide +kernel
theorem dX5_isStation_16 : decode cX5_isStation 16 = .ok (.iconst 1, 1) := by decide +kernel
theorem dX5_isStation_17 : decode cX5_isStation 17 = .ok (.isub, 1) := by decide +kernel
theorem dX5_isStation_18 : decode cX5_isStation 18 = .ok (.invokestatic 69, 3) := by decide +kernel
theorem dX5_isStation_21 : decode cX5_isStation 21 = .ok (.ifCond .eq 7, 3) := by decide +kernel
theorem dX5_isStation_24 : decode cX5_isStation 24 = .ok (.iconst 1, 1) := by decide +kernel
theorem dX5_isStation_25 : decode cX5_isStation 25 = .ok (.goto 4, 3) := by decide +kernel
theorem dX5_isStation_28 : decode cX5_isStation 28 = .ok (.iconst 0, 1) := by decide +kernel
theorem dX5_isStation_29 : decode cX5_isStation 29 = .ok (.ireturn, 1) := by decide +kernel
set_option maxRecDepth 20000 in
theorem ggX5_person_X5_in : GoodIn wsX5_person wsX5_in := goodIn_r _ [6] (by decide +kernel) (by decide +kernel)
set_option maxRecDepth 20000 in
theorem gX5_person_X5_in : GoodIn wsX5_person (va_wsS RX5 69 yX5_in wsX5_in) := goodIn_app (goodIn_of _ (by decide +kernel)) ggX5_person_X5_in
set_option maxRecDepth 20000 in
theorem ggX5_person_X5_goes : GoodIn wsX5_person wsX5_goes := goodIn_r _ [10, 11, 12, 13, 14, 15, 16, 17, 18, 19, 20, 21, 22, 23, 24, 25, 26, 27, 28, 29, 30, 31, 32] (by decide +kernel) (by decide +kernel)
set_option maxRecDepth 20000 in
theorem gX5_person_X5_goes : GoodIn wsX5_person (wsV RX5 80 RX5 yX5_goes wsX5_goes) := goodIn_app (goodIn_of _ (by decide +kernel)) ggX5_person_X5_goes
theorem dX5_person_0 : decode cX5_person 0 = .ok (.aload_n 0, 1) := by decide +kernel
theorem dX5_person_1 : decode cX5_person 1 = .ok (.iload_n 1, 1) := by decide +kernel
theorem dX5_person_2 : decode cX5_person 2 = .ok (.iconst 0, 1) := by decide +kernel
theorem dX5_person_3 : decode cX5_person 3 = .ok (.iconst 3, 1) := by decide +kernel
theorem dX5_person_4 : decode cX5_person 4 = .ok (.invokestatic 69, 3) := by decide +kernel
theorem dX5_person_7 : decode cX5_person 7 = .ok (.aload_n 0, 1) := by decide +kernel
theorem dX5_person_8 : decode cX5_person 8 = .ok (.getfield 66, 3) := by decide +kernel
theorem dX5_person_11 : decode cX5_person 11 = .ok (.bipush 12, 2) := by decide +kernel
theorem dX5_person_13 : decode cX5_person 13 = .ok (.if_icmp .ge 7, 3) := by decide +kernel
theorem dX5_person_16 : decode cX5_person 16 = .ok (.iconst 1, 1) := by decide +kernel
theorem dX5_person_17 : decode cX5_person 17 = .ok (.goto 4, 3) := by decide +kernel
theorem dX5_person_20 : decode cX5_person 20 = .ok (.iconst 0, 1) := by decide +kernel
theorem dX5_person_21 : decode cX5_person 21 = .ok (.iconst 1, 1) := by decide +kernel
theorem dX5_person_22 : decode cX5_person 22 = .ok (.invokevirtual 80, 3) := by decide +kernel
theorem dX5_person_25 : decode cX5_person 25 = .ok (.ifCond .ne 5, 3) := by decide +kernel
theorem dX5_person_28 : decode cX5_person 28 = .ok (.iconst 0, 1) := by decide +kernel
theorem dX5_person_29 : decode cX5_person 29 = .ok (.ireturn, 1) := by decide +kernel
theorem dX5_person_30 : decode cX5_person 30 = .ok (.aload_n 0, 1) := by decide +kernel
theorem dX5_person_31 : decode cX5_person 31 = .ok (.getfield 13, 3) := by decide +kernel
theorem dX5_person_34 : decode cX5_person 34 = .ok (.aload_n 0, 1) := by decide +kernel
theorem dX5_person_35 : decode cX5_person 35 = .ok (.getfield 66, 3) := by decide +kernel
theorem dX5_person_38 : decode cX5_person 38 = .ok (.iload_n 1, 1) := by decide +kernel
theorem dX5_person_39 : decode cX5_person 39 = .ok (.iastore, 1) := by decide +kernel
theorem dX5_person_40 : decode cX5_person 40 = .ok (.aload_n 0, 1) := by decide +kernel
theorem dX5_person_41 : decode cX5_person 41 = .ok (.dup, 1) := by decide +kernel
theorem dX5_person_42 : decode cX5_person 42 = .ok (.getfield 66, 3) := by decide +kernel
theorem dX5_person_45 : decode cX5_person 45 = .ok (.iconst 1, 1) := by decide +kernel
theorem dX5_person_46 : decode cX5_person 46 = .ok (.iadd, 1) := by decide +kernel
theorem dX5_person_47 : decode cX5_person 47 = .ok (.putfield 66, 3) := by decide +kernel
theorem dX5_person_50 : decode cX5_person 50 = .ok (.aload_n 0, 1) := by decide +kernel
theorem dX5_person_51 : decode cX5_person 51 = .ok (.getfield 66, 3) := by decide +kernel
theorem dX5_person_54 : decode cX5_person 54 = .ok (.iconst 1, 1) := by decide +kernel
theorem dX5_person_55 : decode cX5_person 55 = .ok (.isub, 1) := by decide +kernel
theorem dX5_person_56 : decode cX5_person 56 = .ok (.ireturn, 1) := by decide +kernel
set_option maxRecDepth 20000 in
theorem ggX5_die_X5_isPerson : GoodIn wsX5_die wsX5_isPerson := goodIn_r _ [6, 7, 8, 9, 5, 10, 16, 17, 18, 19, 20, 21, 22, 23, 24, 25, 26, 27, 28, 29, 30, 31, 32, 33, 34, 35, 36] (by decide +kernel) (by decide +kernel)
set_option maxRecDepth 20000 in
theorem gX5_die_X5_isPerson : GoodIn wsX5_die (wsV RX5 84 RX5 yX5_isPerson wsX5_isPerson) := goodIn_app (goodIn_of _ (by decide +kernel)) ggX5_die_X5_isPerson
set_option maxRecDepth 20000 in
theorem ggX5_die_X5_goes : GoodIn wsX5_die wsX5_goes := goodIn_r _ [14, 15, 16, 17, 18, 19, 20, 21, 22, 23, 24, 25, 26, 27, 28, 29, 30, 31, 32, 33, 34, 35, 36] (by decide +kernel) (by decide +kernel)
set_option maxRecDepth 20000 in
theorem gX5_die_X5_goes : GoodIn wsX5_die (wsV RX5 80 RX5 yX5_goes wsX5_goes) := goodIn_app (goodIn_of _ (by decide +kernel)) ggX5_die_X5_goes
theorem dX5_die_0 : decode cX5_die 0 = .ok (.aload_n 0, 1) := by decide +kernel
theorem dX5_die_1 : decode cX5_die 1 = .ok (.iload_n 1, 1) := by decide +kernel
theorem dX5_die_2 : decode cX5_die 2 = .ok (.invokevirtual 84, 3) := by decide +kernel
theorem dX5_die_5 : decode cX5_die 5 = .ok (.istore_n 2, 1) := by decide +kernel
theorem dX5_die_6 : decode cX5_die 6 = .ok (.aload_n 0, 1) := by decide +kernel
theorem dX5_die_7 : decode cX5_die 7 = .ok (.iload_n 2, 1) := by decide +kernel
theorem dX5_die_8 : decode cX5_die 8 = .ok (.iload_n 2, 1) := by decide +kernel
theorem dX5_die_9 : decode cX5_die 9 = .ok (.ifCond .eq 16, 3) := by decide +kernel
theorem dX5_die_12 : decode cX5_die 12 = .ok (.aload_n 0, 1) := by decide +kernel
theorem dX5_die_13 : decode cX5_die 13 = .ok (.getfield 17, 3) := by decide +kernel
theorem dX5_die_16 : decode cX5_die 16 = .ok (.iload_n 1, 1) := by decide +kernel
theorem dX5_die_17 : decode cX5_die 17 = .ok (.baload, 1) := by decide +kernel
theorem dX5_die_18 : decode cX5_die 18 = .ok (.ifCond .ne 7, 3) := by decide +kernel
theorem dX5_die_21 : decode cX5_die 21 = .ok (.iconst 1, 1) := by decide +kernel
theorem dX5_die_22 : decode cX5_die 22 = .ok (.goto 4, 3) := by decide +kernel
theorem dX5_die_25 : decode cX5_die 25 = .ok (.iconst 0, 1) := by decide +kernel
theorem dX5_die_26 : decode cX5_die 26 = .ok (.iconst 1, 1) := by decide +kernel
theorem dX5_die_27 : decode cX5_die 27 = .ok (.invokevirtual 80, 3) := by decide +kernel
theorem dX5_die_30 : decode cX5_die 30 = .ok (.ifCond .eq 10, 3) := by decide +kernel
theorem dX5_die_33 : decode cX5_die 33 = .ok (.aload_n 0, 1) := by decide +kernel
theorem dX5_die_34 : decode cX5_die 34 = .ok (.getfield 17, 3) := by decide +kernel
theorem dX5_die_37 : decode cX5_die 37 = .ok (.iload_n 1, 1) := by decide +kernel
theorem dX5_die_38 : decode cX5_die 38 = .ok (.iconst 1, 1) := by decide +kernel
theorem dX5_die_39 : decode cX5_die 39 = .ok (.bastore, 1) := by decide +kernel
theorem dX5_die_40 : decode cX5_die 40 = .ok (.return_, 1) := by decide +kernel
theorem dX5_isHeir_0 : decode cX5_isHeir 0 = .ok (.iconst 0, 1) := by decide +kernel
theorem dX5_isHeir_1 : decode cX5_isHeir 1 = .ok (.istore_n 3, 1) := by decide +kernel
theorem dX5_isHeir_2 : decode cX5_isHeir 2 = .ok (.iconst 0, 1) := by decide +kernel
theorem dX5_isHeir_3 : decode cX5_isHeir 3 = .ok (.istore 4, 2) := by decide +kernel
theorem dX5_isHeir_5 : decode cX5_isHeir 5 = .ok (.iload 4, 2) := by decide +kernel
theorem dX5_isHeir_7 : decode cX5_isHeir 7 = .ok (.aload_n 0, 1) := by decide +kernel
theorem dX5_isHeir_8 : decode cX5_isHeir 8 = .ok (.getfield 24, 3) := by decide +kernel
theorem dX5_isHeir_11 : decode cX5_isHeir 11 = .ok (.iload_n 1, 1) := by decide +kernel
theorem dX5_isHeir_12 : decode cX5_isHeir 12 = .ok (.iaload, 1) := by decide +kernel
theorem dX5_isHeir_13 : decode cX5_isHeir 13 = .ok (.if_icmp .ge 35, 3) := by decide +kernel
theorem dX5_isHeir_16 : decode cX5_isHeir 16 = .ok (.iload_n 3, 1) := by decide +kernel
theorem dX5_isHeir_17 : decode cX5_isHeir 17 = .ok (.ifCond .ne 19, 3) := by decide +kernel
theorem dX5_isHeir_20 : decode cX5_isHeir 20 = .ok (.aload_n 0, 1) := by decide +kernel
theorem dX5_isHeir_21 : decode cX5_isHeir 21 = .ok (.getfield 21, 3) := by decide +kernel
theorem dX5_isHeir_24 : decode cX5_isHeir 24 = .ok (.bipush 12, 2) := by decide +kernel
theorem dX5_isHeir_26 : decode cX5_isHeir 26 = .ok (.iload_n 1, 1) := by decide +kernel
theorem dX5_isHeir_27 : decode cX5_isHeir 27 = .ok (.imul, 1) := by decide +kernel
theorem dX5_isHeir_28 : decode cX5_isHeir 28 = .ok (.iload 4, 2) := by decide +kernel
theorem dX5_isHeir_30 : decode cX5_isHeir 30 = .ok (.iadd, 1) := by decide +kernel
theorem dX5_isHeir_31 : decode cX5_isHeir 31 = .ok (.iaload, 1) := by decide +kernel
theorem dX5_isHeir_32 : decode cX5_isHeir 32 = .ok (.iload_n 2, 1) := by decide +kernel
theorem dX5_isHeir_33 : decode cX5_isHeir 33 = .ok (.if_icmp .ne 7, 3) := by decide +kernel
theorem dX5_isHeir_36 : decode cX5_isHeir 36 = .ok (.iconst 1, 1) := by decide +kernel
theorem dX5_isHeir_37 : decode cX5_isHeir 37 = .ok (.goto 4, 3) := by decide +kernel
theorem dX5_isHeir_40 : decode cX5_isHeir 40 = .ok (.iconst 0, 1) := by decide +kernel
theorem dX5_isHeir_41 : decode cX5_isHeir 41 = .ok (.istore_n 3, 1) := by decide +kernel
theorem dX5_isHeir_42 : decode cX5_isHeir 42 = .ok (.iinc 4 1, 3) := by decide +kernel
theorem dX5_isHeir_45 : decode cX5_isHeir 45 = .ok (.goto (-40), 3) := by decide +kernel
theorem dX5_isHeir_48 : decode cX5_isHeir 48 = .ok (.iload_n 3, 1) := by decide +kernel
theorem dX5_isHeir_49 : decode cX5_isHeir 49 = .ok (.ireturn, 1) := by decide +kernel
set_option maxRecDepth 20000 in
theorem ggX5_heir_X5_isPerson : GoodIn wsX5_heir wsX5_isPerson := goodIn_r _ [7, 8, 9, 10, 6, 11, 21, 22, 23, 24, 25, 26, 27, 28, 29, 30, 31, 32, 33, 34, 35, 36, 37, 38, 39, 40, 41] (by decide +kernel) (by decide +kernel)
set_option maxRecDepth 20000 in
theorem gX5_heir_X5_isPerson : GoodIn wsX5_heir (wsV RX5 84 RX5 yX5_isPerson wsX5_isPerson) := goodIn_app (goodIn_of _ (by decide +kernel)) ggX5_heir_X5_isPerson
set_option maxRecDepth 20000 in
theorem ggX5_heir_X5_isHeir : GoodIn wsX5_heir wsX5_isHeir := goodIn_r _ [15, 2, 1, 21, 22, 23, 24, 25, 26, 27, 28, 29, 30, 31, 32, 33, 34, 35, 36, 37, 38, 39, 40, 41] (by decide +kernel) (by decide +kernel)
set_option maxRecDepth 20000 in
theorem gX5_heir_X5_isHeir : GoodIn wsX5_heir (wsV RX5 87 RX5 yX5_isHeir wsX5_isHeir) := goodIn_app (goodIn_of _ (by decide +kernel)) ggX5_heir_X5_isHeir
set_option maxRecDepth 20000 in
theorem ggX5_heir_X5_goes : GoodIn wsX5_heir wsX5_goes := goodIn_r _ [19, 20, 21, 22, 23, 24, 25, 26, 27, 28, 29, 30, 31, 32, 33, 34, 35, 36, 37, 38, 39, 40, 41] (by decide +kernel) (by decide +kernel)
set_option maxRecDepth 20000 in
theorem gX5_heir_X5_goes : GoodIn wsX5_heir (wsV RX5 80 RX5 yX5_goes wsX5_goes) := goodIn_app (goodIn_of _ (by decide +kernel)) ggX5_heir_X5_goes
theorem dX5_heir_0 : decode cX5_heir 0 = .ok (.aload_n 0, 1) := by decide +kernel
theorem dX5_heir_1 : decode cX5_heir 1 = .ok (.iload_n 1, 1) := by decide +kernel
theorem dX5_heir_2 : decode cX5_heir 2 = .ok (.invokevirtual 84, 3) := by decide +kernel
theorem dX5_heir_5 : decode cX5_heir 5 = .ok (.ifCond .eq 15, 3) := by decide +kernel
theorem dX5_heir_8 : decode cX5_heir 8 = .ok (.aload_n 0, 1) := by decide +kernel
theorem dX5_heir_9 : decode cX5_heir 9 = .ok (.iload_n 2, 1) := by decide +kernel
theorem dX5_heir_10 : decode cX5_heir 10 = .ok (.invokevirtual 84, 3) := by decide +kernel
theorem dX5_heir_13 : decode cX5_heir 13 = .ok (.ifCond .eq 7, 3) := by decide +kernel
theorem dX5_heir_16 : decode cX5_heir 16 = .ok (.iconst 1, 1) := by decide +kernel
theorem dX5_heir_17 : decode cX5_heir 17 = .ok (.goto 4, 3) := by decide +kernel
theorem dX5_heir_20 : decode cX5_heir 20 = .ok (.iconst 0, 1) := by decide +kernel
theorem dX5_heir_21 : decode cX5_heir 21 = .ok (.istore_n 3, 1) := by decide +kernel
theorem dX5_heir_22 : decode cX5_heir 22 = .ok (.aload_n 0, 1) := by decide +kernel
theorem dX5_heir_23 : decode cX5_heir 23 = .ok (.iload_n 3, 1) := by decide +kernel
theorem dX5_heir_24 : decode cX5_heir 24 = .ok (.iload_n 1, 1) := by decide +kernel
theorem dX5_heir_25 : decode cX5_heir 25 = .ok (.iload_n 2, 1) := by decide +kernel
theorem dX5_heir_26 : decode cX5_heir 26 = .ok (.if_icmp .eq 7, 3) := by decide +kernel
theorem dX5_heir_29 : decode cX5_heir 29 = .ok (.iconst 1, 1) := by decide +kernel
theorem dX5_heir_30 : decode cX5_heir 30 = .ok (.goto 4, 3) := by decide +kernel
theorem dX5_heir_33 : decode cX5_heir 33 = .ok (.iconst 0, 1) := by decide +kernel
theorem dX5_heir_34 : decode cX5_heir 34 = .ok (.iload_n 3, 1) := by decide +kernel
theorem dX5_heir_35 : decode cX5_heir 35 = .ok (.ifCond .eq 16, 3) := by decide +kernel
theorem dX5_heir_38 : decode cX5_heir 38 = .ok (.aload_n 0, 1) := by decide +kernel
theorem dX5_heir_39 : decode cX5_heir 39 = .ok (.iload_n 1, 1) := by decide +kernel
theorem dX5_heir_40 : decode cX5_heir 40 = .ok (.iload_n 2, 1) := by decide +kernel
theorem dX5_heir_41 : decode cX5_heir 41 = .ok (.invokevirtual 87, 3) := by decide +kernel
theorem dX5_heir_44 : decode cX5_heir 44 = .ok (.ifCond .ne 7, 3) := by decide +kernel
theorem dX5_heir_47 : decode cX5_heir 47 = .ok (.iconst 1, 1) := by decide +kernel
theorem dX5_heir_48 : decode cX5_heir 48 = .ok (.goto 4, 3) := by decide +kernel
theorem dX5_heir_51 : decode cX5_heir 51 = .ok (.iconst 0, 1) := by decide +kernel
theorem dX5_heir_52 : decode cX5_heir 52 = .ok (.invokevirtual 80, 3) := by decide +kernel
theorem dX5_heir_55 : decode cX5_heir 55 = .ok (.ifCond .ne 5, 3) := by decide +kernel
theorem dX5_heir_58 : decode cX5_heir 58 = .ok (.iconst 0, 1) := by decide +kernel
theorem dX5_heir_59 : decode cX5_heir 59 = .ok (.ireturn, 1) := by decide +kernel
theorem dX5_heir_60 : decode cX5_heir 60 = .ok (.aload_n 0, 1) := by decide +kernel
theorem dX5_heir_61 : decode cX5_heir 61 = .ok (.getfield 21, 3) := by decide +kernel
theorem dX5_heir_64 : decode cX5_heir 64 = .ok (.bipush 12, 2) := by decide +kernel
theorem dX5_heir_66 : decode cX5_heir 66 = .ok (.iload_n 1, 1) := by decide +kernel
theorem dX5_heir_67 : decode cX5_heir 67 = .ok (.imul, 1) := by decide +kernel
theorem dX5_heir_68 : decode cX5_heir 68 = .ok (.aload_n 0, 1) := by decide +kernel
theorem dX5_heir_69 : decode cX5_heir 69 = .ok (.getfield 24, 3) := by decide +kernel
theorem dX5_heir_72 : decode cX5_heir 72 = .ok (.iload_n 1, 1) := by decide +kernel
theorem dX5_heir_73 : decode cX5_heir 73 = .ok (.iaload, 1) := by decide +kernel
theorem dX5_heir_74 : decode cX5_heir 74 = .ok (.iadd, 1) := by decide +kernel
theorem dX5_heir_75 : decode cX5_heir 75 = .ok (.iload_n 2, 1) := by decide +kernel
theorem dX5_heir_76 : decode cX5_heir 76 = .ok (.iastore, 1) := by decide +kernel
theorem dX5_heir_77 : decode cX5_heir 77 = .ok (.aload_n 0, 1) := by decide +kernel
theorem dX5_heir_78 : decode cX5_heir 78 = .ok (.getfield 24, 3) := by decide +kernel
theorem dX5_heir_81 : decode cX5_heir 81 = .ok (.iload_n 1, 1) := by decide +kernel
theorem dX5_heir_82 : decode cX5_heir 82 = .ok (.dup2, 1) := by decide +kernel
theorem dX5_heir_83 : decode cX5_heir 83 = .ok (.iaload, 1) := by decide +kernel
theorem dX5_heir_84 : decode cX5_heir 84 = .ok (.iconst 1, 1) := by decide +kernel
theorem dX5_heir_85 : decode cX5_heir 85 = .ok (.iadd, 1) := by decide +kernel
theorem dX5_heir_86 : decode cX5_heir 86 = .ok (.iastore, 1) := by decide +kernel
theorem dX5_heir_87 : decode cX5_heir 87 = .ok (.aload_n 0, 1) := by decide +kernel
theorem dX5_heir_88 : decode cX5_heir 88 = .ok (.getfield 24, 3) := by decide +kernel
theorem dX5_heir_91 : decode cX5_heir 91 = .ok (.iload_n 1, 1) := by decide +kernel
theorem dX5_heir_92 : decode cX5_heir 92 = .ok (.iaload, 1) := by decide +kernel
theorem dX5_heir_93 : decode cX5_heir 93 = .ok (.ireturn, 1) := by decide +kernel
set_option maxRecDepth 20000 in
theorem ggX5_persecution_X5_in : GoodIn wsX5_persecution wsX5_in := goodIn_r _ [6] (by decide +kernel) (by decide +kernel)
set_option maxRecDepth 20000 in
theorem gX5_persecution_X5_in : GoodIn wsX5_persecution (va_wsS RX5 69 yX5_in wsX5_in) := goodIn_app (goodIn_of _ (by decide +kernel)) ggX5_persecution_X5_in
set_option maxRecDepth 20000 in
theorem ggX5_persecution_X5_isLand : GoodIn wsX5_persecution wsX5_isLand := goodIn_r _ [9, 3, 4, 5, 6] (by decide +kernel) (by decide +kernel)
set_option maxRecDepth 20000 in
theorem gX5_persecution_X5_isLand : GoodIn wsX5_persecution (va_wsS RX5 91 yX5_isLand wsX5_isLand) := goodIn_app (goodIn_of _ (by decide +kernel)) ggX5_persecution_X5_isLand
set_option maxRecDepth 20000 in
theorem ggX5_persecution_X5_goes : GoodIn wsX5_persecution wsX5_goes := goodIn_r _ [13, 14, 15, 16, 17, 18, 19, 20, 21, 22, 23, 24, 25, 26, 27, 28, 29, 30, 31, 32, 33, 34, 35] (by decide +kernel) (by decide +kernel)
set_option maxRecDepth 20000 in
theorem gX5_persecution_X5_goes : GoodIn wsX5_persecution (wsV RX5 80 RX5 yX5_goes wsX5_goes) := goodIn_app (goodIn_of _ (by decide +kernel)) ggX5_persecution_X5_goes
theorem dX5_persecution_0 : decode cX5_persecution 0 = .ok (.iload_n 1, 1) := by decide +kernel
theorem dX5_persecution_1 : decode cX5_persecution 1 = .ok (.iconst 0, 1) := by decide +kernel
theorem dX5_persecution_2 : decode cX5_persecution 2 = .ok (.iconst 3, 1) := by decide +kernel
theorem dX5_persecution_3 : decode cX5_persecution 3 = .ok (.invokestatic 69, 3) := by decide +kernel
theorem dX5_persecution_6 : decode cX5_persecution 6 = .ok (.ifCond .eq 14, 3) := by decide +kernel
theorem dX5_persecution_9 : decode cX5_persecution 9 = .ok (.iload_n 2, 1) := by decide +kernel
theorem dX5_persecution_10 : decode cX5_persecution 10 = .ok (.invokestatic 91, 3) := by decide +kernel
theorem dX5_persecution_13 : decode cX5_persecution 13 = .ok (.ifCond .eq 7, 3) := by decide +kernel
theorem dX5_persecution_16 : decode cX5_persecution 16 = .ok (.iconst 1, 1) := by decide +kernel
theorem dX5_persecution_17 : decode cX5_persecution 17 = .ok (.goto 4, 3) := by decide +kernel
theorem dX5_persecution_20 : decode cX5_persecution 20 = .ok (.iconst 0, 1) := by decide +kernel
theorem dX5_persecution_21 : decode cX5_persecution 21 = .ok (.istore 5, 2) := by decide +kernel
theorem dX5_persecution_23 : decode cX5_persecution 23 = .ok (.aload_n 0, 1) := by decide +kernel
theorem dX5_persecution_24 : decode cX5_persecution 24 = .ok (.iload 5, 2) := by decide +kernel
theorem dX5_persecution_26 : decode cX5_persecution 26 = .ok (.iload_n 3, 1) := by decide +kernel
theorem dX5_persecution_27 : decode cX5_persecution 27 = .ok (.sipush 1900, 3) := by decide +kernel
theorem dX5_persecution_30 : decode cX5_persecution 30 = .ok (.sipush 2100, 3) := by decide +kernel
theorem dX5_persecution_33 : decode cX5_persecution 33 = .ok (.invokestatic 69, 3) := by decide +kernel
theorem dX5_persecution_36 : decode cX5_persecution 36 = .ok (.ifCond .eq 19, 3) := by decide +kernel
theorem dX5_persecution_39 : decode cX5_persecution 39 = .ok (.iload 4, 2) := by decide +kernel
theorem dX5_persecution_41 : decode cX5_persecution 41 = .ok (.iload_n 3, 1) := by decide +kernel
theorem dX5_persecution_42 : decode cX5_persecution 42 = .ok (.sipush 2100, 3) := by decide +kernel
theorem dX5_persecution_45 : decode cX5_persecution 45 = .ok (.invokestatic 69, 3) := by decide +kernel
theorem dX5_persecution_48 : decode cX5_persecution 48 = .ok (.ifCond .eq 7, 3) := by decide +kernel
theorem dX5_persecution_51 : decode cX5_persecution 51 = .ok (.iconst 1, 1) := by decide +kernel
theorem dX5_persecution_52 : decode cX5_persecution 52 = .ok (.goto 4, 3) := by decide +kernel
theorem dX5_persecution_55 : decode cX5_persecution 55 = .ok (.iconst 0, 1) := by decide +kernel
theorem dX5_persecution_56 : decode cX5_persecution 56 = .ok (.aload_n 0, 1) := by decide +kernel
theorem dX5_persecution_57 : decode cX5_persecution 57 = .ok (.getfield 94, 3) := by decide +kernel
theorem dX5_persecution_60 : decode cX5_persecution 60 = .ok (.bipush 20, 2) := by decide +kernel
theorem dX5_persecution_62 : decode cX5_persecution 62 = .ok (.if_icmp .ge 7, 3) := by decide +kernel
theorem dX5_persecution_65 : decode cX5_persecution 65 = .ok (.iconst 1, 1) := by decide +kernel
theorem dX5_persecution_66 : decode cX5_persecution 66 = .ok (.goto 4, 3) := by decide +kernel
theorem dX5_persecution_69 : decode cX5_persecution 69 = .ok (.iconst 0, 1) := by decide +kernel
theorem dX5_persecution_70 : decode cX5_persecution 70 = .ok (.invokevirtual 80, 3) := by decide +kernel
theorem dX5_persecution_73 : decode cX5_persecution 73 = .ok (.ifCond .ne 5, 3) := by decide +kernel
theorem dX5_persecution_76 : decode cX5_persecution 76 = .ok (.iconst 0, 1) := by decide +kernel
theorem dX5_persecution_77 : decode cX5_persecution 77 = .ok (.ireturn, 1) := by decide +kernel
theorem dX5_persecution_78 : decode cX5_persecution 78 = .ok (.iconst 4, 1) := by decide +kernel
theorem dX5_persecution_79 : decode cX5_persecution 79 = .ok (.aload_n 0, 1) := by decide +kernel
theorem dX5_persecution_80 : decode cX5_persecution 80 = .ok (.getfield 94, 3) := by decide +kernel
theorem dX5_persecution_83 : decode cX5_persecution 83 = .ok (.imul, 1) := by decide +kernel
theorem dX5_persecution_84 : decode cX5_persecution 84 = .ok (.istore 6, 2) := by decide +kernel
theorem dX5_persecution_86 : decode cX5_persecution 86 = .ok (.aload_n 0, 1) := by decide +kernel
theorem dX5_persecution_87 : decode cX5_persecution 87 = .ok (.getfield 27, 3) := by decide +kernel
theorem dX5_persecution_90 : decode cX5_persecution 90 = .ok (.iload 6, 2) := by decide +kernel
theorem dX5_persecution_92 : decode cX5_persecution 92 = .ok (.iload_n 1, 1) := by decide +kernel
theorem dX5_persecution_93 : decode cX5_persecution 93 = .ok (.iastore, 1) := by decide +kernel
theorem dX5_persecution_94 : decode cX5_persecution 94 = .ok (.aload_n 0, 1) := by decide +kernel
theorem dX5_persecution_95 : decode cX5_persecution 95 = .ok (.getfield 27, 3) := by decide +kernel
theorem dX5_persecution_98 : decode cX5_persecution 98 = .ok (.iload 6, 2) := by decide +kernel
theorem dX5_persecution_100 : decode cX5_persecution 100 = .ok (.iconst 1, 1) := by decide +kernel
theorem dX5_persecution_101 : decode cX5_persecution 101 = .ok (.iadd, 1) := by decide +kernel
theorem dX5_persecution_102 : decode cX5_persecution 102 = .ok (.iload_n 2, 1) := by decide +kernel
theorem dX5_persecution_103 : decode cX5_persecution 103 = .ok (.iastore, 1) := by decide +kernel
theorem dX5_persecution_104 : decode cX5_persecution 104 = .ok (.aload_n 0, 1) := by decide +kernel
theorem dX5_persecution_105 : decode cX5_persecution 105 = .ok (.getfield 27, 3) := by decide +kernel
theorem dX5_persecution_108 : decode cX5_persecution 108 = .ok (.iload 6, 2) := by decide +kernel
theorem dX5_persecution_110 : decode cX5_persecution 110 = .ok (.iconst 2, 1) := by decide +kernel
theorem dX5_persecution_111 : decode cX5_persecution 111 = .ok (.iadd, 1) := by decide +kernel
theorem dX5_persecution_112 : decode cX5_persecution 112 = .ok (.iload_n 3, 1) := by decide +kernel
theorem dX5_persecution_113 : decode cX5_persecution 113 = .ok (.iastore, 1) := by decide +kernel
theorem dX5_persecution_114 : decode cX5_persecution 114 = .ok (.aload_n 0, 1) := by decide +kernel
theorem dX5_persecution_115 : decode cX5_persecution 115 = .ok (.getfield 27, 3) := by decide +kernel
theorem dX5_persecution_118 : decode cX5_persecution 118 = .ok (.iload 6, 2) := by decide +kernel
theorem dX5_persecution_120 : decode cX5_persecution 120 = .ok (.iconst 3, 1) := by decide +kernel
theorem dX5_persecution_121 : decode cX5_persecution 121 = .ok (.iadd, 1) := by decide +kernel
theorem dX5_persecution_122 : decode cX5_persecution 122 = .ok (.iload 4, 2) := by decide +kernel
theorem dX5_persecution_124 : decode cX5_persecution 124 = .ok (.iastore, 1) := by decide +kernel
theorem dX5_persecution_125 : decode cX5_persecution 125 = .ok (.aload_n 0, 1) := by decide +kernel
theorem dX5_persecution_126 : decode cX5_persecution 126 = .ok (.dup, 1) := by decide +kernel
theorem dX5_persecution_127 : decode cX5_persecution 127 = .ok (.getfield 94, 3) := by decide +kernel
theorem dX5_persecution_130 : decode cX5_persecution 130 = .ok (.iconst 1, 1) := by decide +kernel
theorem dX5_persecution_131 : decode cX5_persecution 131 = .ok (.iadd, 1) := by decide +kernel
theorem dX5_persecution_132 : decode cX5_persecution 132 = .ok (.putfield 94, 3) := by decide +kernel
theorem dX5_persecution_135 : decode cX5_persecution 135 = .ok (.aload_n 0, 1) := by decide +kernel
theorem dX5_persecution_136 : decode cX5_persecution 136 = .ok (.getfield 94, 3) := by decide +kernel
theorem dX5_persecution_139 : decode cX5_persecution 139 = .ok (.ireturn, 1) := by decide +kernel
set_option maxRecDepth 20000 in
theorem ggX5_faith_X5_isLand : GoodIn wsX5_faith wsX5_isLand := goodIn_r _ [5, 6, 7, 4, 8] (by decide +kernel) (by decide +kernel)
set_option maxRecDepth 20000 in
theorem gX5_faith_X5_isLand : GoodIn wsX5_faith (va_wsS RX5 91 yX5_isLand wsX5_isLand) := goodIn_app (goodIn_of _ (by decide +kernel)) ggX5_faith_X5_isLand
set_option maxRecDepth 20000 in
theorem ggX5_faith_X5_in : GoodIn wsX5_faith wsX5_in := goodIn_r _ [8] (by decide +kernel) (by decide +kernel)
set_option maxRecDepth 20000 in
theorem gX5_faith_X5_in : GoodIn wsX5_faith (va_wsS RX5 69 yX5_in wsX5_in) := goodIn_app (goodIn_of _ (by decide +kernel)) ggX5_faith_X5_in
set_option maxRecDepth 20000 in
theorem ggX5_faith_X5_goes : GoodIn wsX5_faith wsX5_goes := goodIn_r _ [12, 13, 14, 15, 16, 17, 18, 19, 20, 21, 22, 23, 24, 25, 26, 27, 28, 29, 30, 31, 32, 33, 34] (by decide +kernel) (by decide +kernel)
set_option maxRecDepth 20000 in
theorem gX5_faith_X5_goes : GoodIn wsX5_faith (wsV RX5 80 RX5 yX5_goes wsX5_goes) := goodIn_app (goodIn_of _ (by decide +kernel)) ggX5_faith_X5_goes
theorem dX5_faith_0 : decode cX5_faith 0 = .ok (.aload_n 0, 1) := by decide +kernel
theorem dX5_faith_1 : decode cX5_faith 1 = .ok (.iload_n 1, 1) := by decide +kernel
theorem dX5_faith_2 : decode cX5_faith 2 = .ok (.invokestatic 91, 3) := by decide +kernel
theorem dX5_faith_5 : decode cX5_faith 5 = .ok (.iload_n 2, 1) := by decide +kernel
theorem dX5_faith_6 : decode cX5_faith 6 = .ok (.iconst 0, 1) := by decide +kernel
theorem dX5_faith_7 : decode cX5_faith 7 = .ok (.bipush 60, 2) := by decide +kernel
theorem dX5_faith_9 : decode cX5_faith 9 = .ok (.invokestatic 69, 3) := by decide +kernel
theorem dX5_faith_12 : decode cX5_faith 12 = .ok (.iconst 1, 1) := by decide +kernel
theorem dX5_faith_13 : decode cX5_faith 13 = .ok (.invokevirtual 80, 3) := by decide +kernel
theorem dX5_faith_16 : decode cX5_faith 16 = .ok (.ifCond .ne 5, 3) := by decide +kernel
theorem dX5_faith_19 : decode cX5_faith 19 = .ok (.iconst 0, 1) := by decide +kernel
theorem dX5_faith_20 : decode cX5_faith 20 = .ok (.ireturn, 1) := by decide +kernel
theorem dX5_faith_21 : decode cX5_faith 21 = .ok (.aload_n 0, 1) := by decide +kernel
theorem dX5_faith_22 : decode cX5_faith 22 = .ok (.getfield 30, 3) := by decide +kernel
theorem dX5_faith_25 : decode cX5_faith 25 = .ok (.iload_n 1, 1) := by decide +kernel
theorem dX5_faith_26 : decode cX5_faith 26 = .ok (.iaload, 1) := by decide +kernel
theorem dX5_faith_27 : decode cX5_faith 27 = .ok (.istore_n 3, 1) := by decide +kernel
theorem dX5_faith_28 : decode cX5_faith 28 = .ok (.aload_n 0, 1) := by decide +kernel
theorem dX5_faith_29 : decode cX5_faith 29 = .ok (.getfield 30, 3) := by decide +kernel
theorem dX5_faith_32 : decode cX5_faith 32 = .ok (.iload_n 1, 1) := by decide +kernel
theorem dX5_faith_33 : decode cX5_faith 33 = .ok (.iload_n 2, 1) := by decide +kernel
theorem dX5_faith_34 : decode cX5_faith 34 = .ok (.iastore, 1) := by decide +kernel
theorem dX5_faith_35 : decode cX5_faith 35 = .ok (.iload_n 3, 1) := by decide +kernel
theorem dX5_faith_36 : decode cX5_faith 36 = .ok (.ireturn, 1) := by decide +kernel
set_option maxRecDepth 20000 in
theorem ggX5_now_X5_in : GoodIn wsX5_now wsX5_in := goodIn_r _ [5] (by decide +kernel) (by decide +kernel)
set_option maxRecDepth 20000 in
theorem gX5_now_X5_in : GoodIn wsX5_now (va_wsS RX5 69 yX5_in wsX5_in) := goodIn_app (goodIn_of _ (by decide +kernel)) ggX5_now_X5_in
set_option maxRecDepth 20000 in
theorem ggX5_now_X5_goes : GoodIn wsX5_now wsX5_goes := goodIn_r _ [9, 10, 11, 12, 13, 14, 15, 16, 17, 18, 19, 20, 21, 22, 23, 24, 25, 26, 27, 28, 29, 30, 31] (by decide +kernel) (by decide +kernel)
set_option maxRecDepth 20000 in
theorem gX5_now_X5_goes : GoodIn wsX5_now (wsV RX5 80 RX5 yX5_goes wsX5_goes) := goodIn_app (goodIn_of _ (by decide +kernel)) ggX5_now_X5_goes
theorem dX5_now_0 : decode cX5_now 0 = .ok (.aload_n 0, 1) := by decide +kernel
theorem dX5_now_1 : decode cX5_now 1 = .ok (.iload_n 1, 1) := by decide +kernel
theorem dX5_now_2 : decode cX5_now 2 = .ok (.aload_n 0, 1) := by decide +kernel
theorem dX5_now_3 : decode cX5_now 3 = .ok (.getfield 7, 3) := by decide +kernel
theorem dX5_now_6 : decode cX5_now 6 = .ok (.sipush 2100, 3) := by decide +kernel
theorem dX5_now_9 : decode cX5_now 9 = .ok (.invokestatic 69, 3) := by decide +kernel
theorem dX5_now_12 : decode cX5_now 12 = .ok (.iconst 1, 1) := by decide +kernel
theorem dX5_now_13 : decode cX5_now 13 = .ok (.iconst 1, 1) := by decide +kernel
theorem dX5_now_14 : decode cX5_now 14 = .ok (.invokevirtual 80, 3) := by decide +kernel
theorem dX5_now_17 : decode cX5_now 17 = .ok (.ifCond .ne 5, 3) := by decide +kernel
theorem dX5_now_20 : decode cX5_now 20 = .ok (.iconst 0, 1) := by decide +kernel
theorem dX5_now_21 : decode cX5_now 21 = .ok (.ireturn, 1) := by decide +kernel
theorem dX5_now_22 : decode cX5_now 22 = .ok (.aload_n 0, 1) := by decide +kernel
theorem dX5_now_23 : decode cX5_now 23 = .ok (.getfield 7, 3) := by decide +kernel
theorem dX5_now_26 : decode cX5_now 26 = .ok (.istore_n 2, 1) := by decide +kernel
theorem dX5_now_27 : decode cX5_now 27 = .ok (.aload_n 0, 1) := by decide +kernel
theorem dX5_now_28 : decode cX5_now 28 = .ok (.iload_n 1, 1) := by decide +kernel
theorem dX5_now_29 : decode cX5_now 29 = .ok (.putfield 7, 3) := by decide +kernel
theorem dX5_now_32 : decode cX5_now 32 = .ok (.iload_n 2, 1) := by decide +kernel
theorem dX5_now_33 : decode cX5_now 33 = .ok (.ireturn, 1) := by decide +kernel
set_option maxRecDepth 20000 in
theorem ggX5_persecutes_X5_in : GoodIn wsX5_persecutes wsX5_in := goodIn_r _ [6] (by decide +kernel) (by decide +kernel)
set_option maxRecDepth 20000 in
theorem gX5_persecutes_X5_in : GoodIn wsX5_persecutes (va_wsS RX5 69 yX5_in wsX5_in) := goodIn_app (goodIn_of _ (by decide +kernel)) ggX5_persecutes_X5_in
theorem dX5_persecutes_0 : decode cX5_persecutes 0 = .ok (.iconst 0, 1) := by decide +kernel
theorem dX5_persecutes_1 : decode cX5_persecutes 1 = .ok (.istore 4, 2) := by decide +kernel
theorem dX5_persecutes_3 : decode cX5_persecutes 3 = .ok (.iconst 0, 1) := by decide +kernel
theorem dX5_persecutes_4 : decode cX5_persecutes 4 = .ok (.istore 5, 2) := by decide +kernel
theorem dX5_persecutes_6 : decode cX5_persecutes 6 = .ok (.iload 5, 2) := by decide +kernel
theorem dX5_persecutes_8 : decode cX5_persecutes 8 = .ok (.aload_n 0, 1) := by decide +kernel
theorem dX5_persecutes_9 : decode cX5_persecutes 9 = .ok (.getfield 94, 3) := by decide +kernel
theorem dX5_persecutes_12 : decode cX5_persecutes 12 = .ok (.if_icmp .ge 78, 3) := by decide +kernel
theorem dX5_persecutes_15 : decode cX5_persecutes 15 = .ok (.iload 4, 2) := by decide +kernel
theorem dX5_persecutes_17 : decode cX5_persecutes 17 = .ok (.ifCond .ne 60, 3) := by decide +kernel
theorem dX5_persecutes_20 : decode cX5_persecutes 20 = .ok (.aload_n 0, 1) := by decide +kernel
theorem dX5_persecutes_21 : decode cX5_persecutes 21 = .ok (.getfield 27, 3) := by decide +kernel
theorem dX5_persecutes_24 : decode cX5_persecutes 24 = .ok (.iconst 4, 1) := by decide +kernel
theorem dX5_persecutes_25 : decode cX5_persecutes 25 = .ok (.iload 5, 2) := by decide +kernel
theorem dX5_persecutes_27 : decode cX5_persecutes 27 = .ok (.imul, 1) := by decide +kernel
theorem dX5_persecutes_28 : decode cX5_persecutes 28 = .ok (.iaload, 1) := by decide +kernel
theorem dX5_persecutes_29 : decode cX5_persecutes 29 = .ok (.iload_n 1, 1) := by decide +kernel
theorem dX5_persecutes_30 : decode cX5_persecutes 30 = .ok (.if_icmp .ne 51, 3) := by decide +kernel
theorem dX5_persecutes_33 : decode cX5_persecutes 33 = .ok (.aload_n 0, 1) := by decide +kernel
theorem dX5_persecutes_34 : decode cX5_persecutes 34 = .ok (.getfield 27, 3) := by decide +kernel
theorem dX5_persecutes_37 : decode cX5_persecutes 37 = .ok (.iconst 4, 1) := by decide +kernel
theorem dX5_persecutes_38 : decode cX5_persecutes 38 = .ok (.iload 5, 2) := by decide +kernel
theorem dX5_persecutes_40 : decode cX5_persecutes 40 = .ok (.imul, 1) := by decide +kernel
theorem dX5_persecutes_41 : decode cX5_persecutes 41 = .ok (.iconst 1, 1) := by decide +kernel
theorem dX5_persecutes_42 : decode cX5_persecutes 42 = .ok (.iadd, 1) := by decide +kernel
theorem dX5_persecutes_43 : decode cX5_persecutes 43 = .ok (.iaload, 1) := by decide +kernel
theorem dX5_persecutes_44 : decode cX5_persecutes 44 = .ok (.iload_n 2, 1) := by decide +kernel
theorem dX5_persecutes_45 : decode cX5_persecutes 45 = .ok (.if_icmp .ne 36, 3) := by decide +kernel
theorem dX5_persecutes_48 : decode cX5_persecutes 48 = .ok (.iload_n 3, 1) := by decide +kernel
theorem dX5_persecutes_49 : decode cX5_persecutes 49 = .ok (.aload_n 0, 1) := by decide +kernel
theorem dX5_persecutes_50 : decode cX5_persecutes 50 = .ok (.getfield 27, 3) := by decide +kernel
theorem dX5_persecutes_53 : decode cX5_persecutes 53 = .ok (.iconst 4, 1) := by decide +kernel
theorem dX5_persecutes_54 : decode cX5_persecutes 54 = .ok (.iload 5, 2) := by decide +kernel
theorem dX5_persecutes_56 : decode cX5_persecutes 56 = .ok (.imul, 1) := by decide +kernel
theorem dX5_persecutes_57 : decode cX5_persecutes 57 = .ok (.iconst 2, 1) := by decide +kernel
theorem dX5_persecutes_58 : decode cX5_persecutes 58 = .ok (.iadd, 1) := by decide +kernel
theorem dX5_persecutes_59 : decode cX5_persecutes 59 = .ok (.iaload, 1) := by decide +kernel
theorem dX5_persecutes_60 : decode cX5_persecutes 60 = .ok (.aload_n 0, 1) := by decide +kernel
theorem dX5_persecutes_61 : decode cX5_persecutes 61 = .ok (.getfield 27, 3) := by decide +kernel
end
section
theorem dX5_persecutes_64 : decode cX5_persecutes 64 = .ok (.iconst 4, 1) := by decide +kernel
theorem dX5_persecutes_65 : decode cX5_persecutes 65 = .ok (.iload 5, 2) := by decide +kernel
theorem dX5_persecutes_67 : decode cX5_persecutes 67 = .ok (.imul, 1) := by decide +kernel
theorem dX5_persecutes_68 : decode cX5_persecutes 68 = .ok (.iconst 3, 1) := by decide +kernel
theorem dX5_persecutes_69 : decode cX5_persecutes 69 = .ok (.iadd, 1) := by decide +kernel
theorem dX5_persecutes_70 : decode cX5_persecutes 70 = .ok (.iaload, 1) := by decide +kernel
theorem dX5_persecutes_71 : decode cX5_persecutes 71 = .ok (.invokestatic 69, 3) := by decide +kernel
theorem dX5_persecutes_74 : decode cX5_persecutes 74 = .ok (.ifCond .eq 7, 3) := by decide +kernel
theorem dX5_persecutes_77 : decode cX5_persecutes 77 = .ok (.iconst 1, 1) := by decide +kernel
theorem dX5_persecutes_78 : decode cX5_persecutes 78 = .ok (.goto 4, 3) := by decide +kernel
theorem dX5_persecutes_81 : decode cX5_persecutes 81 = .ok (.iconst 0, 1) := by decide +kernel
theorem dX5_persecutes_82 : decode cX5_persecutes 82 = .ok (.istore 4, 2) := by decide +kernel
theorem dX5_persecutes_84 : decode cX5_persecutes 84 = .ok (.iinc 5 1, 3) := by decide +kernel
theorem dX5_persecutes_87 : decode cX5_persecutes 87 = .ok (.goto (-81), 3) := by decide +kernel
theorem dX5_persecutes_90 : decode cX5_persecutes 90 = .ok (.iload 4, 2) := by decide +kernel
theorem dX5_persecutes_92 : decode cX5_persecutes 92 = .ok (.ireturn, 1) := by decide +kernel
set_option maxRecDepth 20000 in
theorem ggX5_thing_X5_in : GoodIn wsX5_thing wsX5_in := goodIn_r _ [8] (by decide +kernel) (by decide +kernel)
set_option maxRecDepth 20000 in
theorem gX5_thing_X5_in : GoodIn wsX5_thing (va_wsS RX5 69 yX5_in wsX5_in) := goodIn_app (goodIn_of _ (by decide +kernel)) ggX5_thing_X5_in
set_option maxRecDepth 20000 in
theorem ggX5_thing_X5_goes : GoodIn wsX5_thing wsX5_goes := goodIn_r _ [12, 13, 14, 15, 16, 17, 18, 19, 20, 21, 22, 23, 24, 25, 26, 27, 28, 29, 30, 31, 32, 33, 34] (by decide +kernel) (by decide +kernel)
set_option maxRecDepth 20000 in
theorem gX5_thing_X5_goes : GoodIn wsX5_thing (wsV RX5 80 RX5 yX5_goes wsX5_goes) := goodIn_app (goodIn_of _ (by decide +kernel)) ggX5_thing_X5_goes
theorem dX5_thing_0 : decode cX5_thing 0 = .ok (.aload_n 0, 1) := by decide +kernel
theorem dX5_thing_1 : decode cX5_thing 1 = .ok (.iload_n 1, 1) := by decide +kernel
theorem dX5_thing_2 : decode cX5_thing 2 = .ok (.iconst 0, 1) := by decide +kernel
theorem dX5_thing_3 : decode cX5_thing 3 = .ok (.ldc 97, 2) := by decide +kernel
theorem dX5_thing_5 : decode cX5_thing 5 = .ok (.invokestatic 69, 3) := by decide +kernel
theorem dX5_thing_8 : decode cX5_thing 8 = .ok (.ifCond .eq 18, 3) := by decide +kernel
theorem dX5_thing_11 : decode cX5_thing 11 = .ok (.iload_n 2, 1) := by decide +kernel
theorem dX5_thing_12 : decode cX5_thing 12 = .ok (.iconst 0, 1) := by decide +kernel
theorem dX5_thing_13 : decode cX5_thing 13 = .ok (.sipush 1000, 3) := by decide +kernel
theorem dX5_thing_16 : decode cX5_thing 16 = .ok (.invokestatic 69, 3) := by decide +kernel
theorem dX5_thing_19 : decode cX5_thing 19 = .ok (.ifCond .eq 7, 3) := by decide +kernel
theorem dX5_thing_22 : decode cX5_thing 22 = .ok (.iconst 1, 1) := by decide +kernel
theorem dX5_thing_23 : decode cX5_thing 23 = .ok (.goto 4, 3) := by decide +kernel
theorem dX5_thing_26 : decode cX5_thing 26 = .ok (.iconst 0, 1) := by decide +kernel
theorem dX5_thing_27 : decode cX5_thing 27 = .ok (.aload_n 0, 1) := by decide +kernel
theorem dX5_thing_28 : decode cX5_thing 28 = .ok (.getfield 73, 3) := by decide +kernel
theorem dX5_thing_31 : decode cX5_thing 31 = .ok (.bipush 10, 2) := by decide +kernel
theorem dX5_thing_33 : decode cX5_thing 33 = .ok (.if_icmp .ge 7, 3) := by decide +kernel
theorem dX5_thing_36 : decode cX5_thing 36 = .ok (.iconst 1, 1) := by decide +kernel
theorem dX5_thing_37 : decode cX5_thing 37 = .ok (.goto 4, 3) := by decide +kernel
theorem dX5_thing_40 : decode cX5_thing 40 = .ok (.iconst 0, 1) := by decide +kernel
theorem dX5_thing_41 : decode cX5_thing 41 = .ok (.iconst 1, 1) := by decide +kernel
theorem dX5_thing_42 : decode cX5_thing 42 = .ok (.invokevirtual 80, 3) := by decide +kernel
theorem dX5_thing_45 : decode cX5_thing 45 = .ok (.ifCond .ne 5, 3) := by decide +kernel
theorem dX5_thing_48 : decode cX5_thing 48 = .ok (.iconst 0, 1) := by decide +kernel
theorem dX5_thing_49 : decode cX5_thing 49 = .ok (.ireturn, 1) := by decide +kernel
theorem dX5_thing_50 : decode cX5_thing 50 = .ok (.aload_n 0, 1) := by decide +kernel
theorem dX5_thing_51 : decode cX5_thing 51 = .ok (.getfield 33, 3) := by decide +kernel
theorem dX5_thing_54 : decode cX5_thing 54 = .ok (.aload_n 0, 1) := by decide +kernel
theorem dX5_thing_55 : decode cX5_thing 55 = .ok (.getfield 73, 3) := by decide +kernel
theorem dX5_thing_58 : decode cX5_thing 58 = .ok (.iload_n 1, 1) := by decide +kernel
theorem dX5_thing_59 : decode cX5_thing 59 = .ok (.iastore, 1) := by decide +kernel
theorem dX5_thing_60 : decode cX5_thing 60 = .ok (.aload_n 0, 1) := by decide +kernel
theorem dX5_thing_61 : decode cX5_thing 61 = .ok (.getfield 36, 3) := by decide +kernel
theorem dX5_thing_64 : decode cX5_thing 64 = .ok (.aload_n 0, 1) := by decide +kernel
theorem dX5_thing_65 : decode cX5_thing 65 = .ok (.getfield 73, 3) := by decide +kernel
theorem dX5_thing_68 : decode cX5_thing 68 = .ok (.iload_n 2, 1) := by decide +kernel
theorem dX5_thing_69 : decode cX5_thing 69 = .ok (.iastore, 1) := by decide +kernel
theorem dX5_thing_70 : decode cX5_thing 70 = .ok (.aload_n 0, 1) := by decide +kernel
theorem dX5_thing_71 : decode cX5_thing 71 = .ok (.dup, 1) := by decide +kernel
theorem dX5_thing_72 : decode cX5_thing 72 = .ok (.getfield 73, 3) := by decide +kernel
theorem dX5_thing_75 : decode cX5_thing 75 = .ok (.iconst 1, 1) := by decide +kernel
theorem dX5_thing_76 : decode cX5_thing 76 = .ok (.iadd, 1) := by decide +kernel
theorem dX5_thing_77 : decode cX5_thing 77 = .ok (.putfield 73, 3) := by decide +kernel
theorem dX5_thing_80 : decode cX5_thing 80 = .ok (.aload_n 0, 1) := by decide +kernel
theorem dX5_thing_81 : decode cX5_thing 81 = .ok (.getfield 73, 3) := by decide +kernel
theorem dX5_thing_84 : decode cX5_thing 84 = .ok (.iconst 1, 1) := by decide +kernel
theorem dX5_thing_85 : decode cX5_thing 85 = .ok (.isub, 1) := by decide +kernel
theorem dX5_thing_86 : decode cX5_thing 86 = .ok (.ireturn, 1) := by decide +kernel
set_option maxRecDepth 20000 in
theorem ggX5_mark_X5_isThing : GoodIn wsX5_mark wsX5_isThing := goodIn_r _ [6, 7, 8, 9, 5, 10, 16, 17, 18, 19, 20, 21, 22, 23, 24, 25, 26, 27, 28, 29, 30, 31, 32, 33, 34, 35, 36] (by decide +kernel) (by decide +kernel)
set_option maxRecDepth 20000 in
theorem gX5_mark_X5_isThing : GoodIn wsX5_mark (wsV RX5 76 RX5 yX5_isThing wsX5_isThing) := goodIn_app (goodIn_of _ (by decide +kernel)) ggX5_mark_X5_isThing
set_option maxRecDepth 20000 in
theorem ggX5_mark_X5_in : GoodIn wsX5_mark wsX5_in := goodIn_r _ [10] (by decide +kernel) (by decide +kernel)
set_option maxRecDepth 20000 in
theorem gX5_mark_X5_in : GoodIn wsX5_mark (va_wsS RX5 69 yX5_in wsX5_in) := goodIn_app (goodIn_of _ (by decide +kernel)) ggX5_mark_X5_in
set_option maxRecDepth 20000 in
theorem ggX5_mark_X5_goes : GoodIn wsX5_mark wsX5_goes := goodIn_r _ [14, 15, 16, 17, 18, 19, 20, 21, 22, 23, 24, 25, 26, 27, 28, 29, 30, 31, 32, 33, 34, 35, 36] (by decide +kernel) (by decide +kernel)
set_option maxRecDepth 20000 in
theorem gX5_mark_X5_goes : GoodIn wsX5_mark (wsV RX5 80 RX5 yX5_goes wsX5_goes) := goodIn_app (goodIn_of _ (by decide +kernel)) ggX5_mark_X5_goes
theorem dX5_mark_0 : decode cX5_mark 0 = .ok (.aload_n 0, 1) := by decide +kernel
theorem dX5_mark_1 : decode cX5_mark 1 = .ok (.aload_n 0, 1) := by decide +kernel
theorem dX5_mark_2 : decode cX5_mark 2 = .ok (.iload_n 1, 1) := by decide +kernel
theorem dX5_mark_3 : decode cX5_mark 3 = .ok (.invokevirtual 76, 3) := by decide +kernel
theorem dX5_mark_6 : decode cX5_mark 6 = .ok (.iload_n 2, 1) := by decide +kernel
theorem dX5_mark_7 : decode cX5_mark 7 = .ok (.iconst 0, 1) := by decide +kernel
theorem dX5_mark_8 : decode cX5_mark 8 = .ok (.bipush 15, 2) := by decide +kernel
theorem dX5_mark_10 : decode cX5_mark 10 = .ok (.invokestatic 69, 3) := by decide +kernel
theorem dX5_mark_13 : decode cX5_mark 13 = .ok (.iconst 1, 1) := by decide +kernel
theorem dX5_mark_14 : decode cX5_mark 14 = .ok (.invokevirtual 80, 3) := by decide +kernel
theorem dX5_mark_17 : decode cX5_mark 17 = .ok (.ifCond .ne 5, 3) := by decide +kernel
theorem dX5_mark_20 : decode cX5_mark 20 = .ok (.iconst 0, 1) := by decide +kernel
theorem dX5_mark_21 : decode cX5_mark 21 = .ok (.ireturn, 1) := by decide +kernel
theorem dX5_mark_22 : decode cX5_mark 22 = .ok (.aload_n 0, 1) := by decide +kernel
theorem dX5_mark_23 : decode cX5_mark 23 = .ok (.getfield 33, 3) := by decide +kernel
theorem dX5_mark_26 : decode cX5_mark 26 = .ok (.iload_n 1, 1) := by decide +kernel
theorem dX5_mark_27 : decode cX5_mark 27 = .ok (.iaload, 1) := by decide +kernel
theorem dX5_mark_28 : decode cX5_mark 28 = .ok (.iload_n 2, 1) := by decide +kernel
theorem dX5_mark_29 : decode cX5_mark 29 = .ok (.ishr, 1) := by decide +kernel
theorem dX5_mark_30 : decode cX5_mark 30 = .ok (.iconst 1, 1) := by decide +kernel
theorem dX5_mark_31 : decode cX5_mark 31 = .ok (.iand, 1) := by decide +kernel
theorem dX5_mark_32 : decode cX5_mark 32 = .ok (.iconst 1, 1) := by decide +kernel
theorem dX5_mark_33 : decode cX5_mark 33 = .ok (.if_icmp .ne 7, 3) := by decide +kernel
theorem dX5_mark_36 : decode cX5_mark 36 = .ok (.iconst 1, 1) := by decide +kernel
theorem dX5_mark_37 : decode cX5_mark 37 = .ok (.goto 4, 3) := by decide +kernel
theorem dX5_mark_40 : decode cX5_mark 40 = .ok (.iconst 0, 1) := by decide +kernel
theorem dX5_mark_41 : decode cX5_mark 41 = .ok (.istore 4, 2) := by decide +kernel
theorem dX5_mark_43 : decode cX5_mark 43 = .ok (.aload_n 0, 1) := by decide +kernel
theorem dX5_mark_44 : decode cX5_mark 44 = .ok (.getfield 33, 3) := by decide +kernel
theorem dX5_mark_47 : decode cX5_mark 47 = .ok (.iload_n 1, 1) := by decide +kernel
theorem dX5_mark_48 : decode cX5_mark 48 = .ok (.iload_n 3, 1) := by decide +kernel
theorem dX5_mark_49 : decode cX5_mark 49 = .ok (.ifCond .eq 16, 3) := by decide +kernel
theorem dX5_mark_52 : decode cX5_mark 52 = .ok (.aload_n 0, 1) := by decide +kernel
theorem dX5_mark_53 : decode cX5_mark 53 = .ok (.getfield 33, 3) := by decide +kernel
theorem dX5_mark_56 : decode cX5_mark 56 = .ok (.iload_n 1, 1) := by decide +kernel
theorem dX5_mark_57 : decode cX5_mark 57 = .ok (.iaload, 1) := by decide +kernel
theorem dX5_mark_58 : decode cX5_mark 58 = .ok (.iconst 1, 1) := by decide +kernel
theorem dX5_mark_59 : decode cX5_mark 59 = .ok (.iload_n 2, 1) := by decide +kernel
theorem dX5_mark_60 : decode cX5_mark 60 = .ok (.ishl, 1) := by decide +kernel
theorem dX5_mark_61 : decode cX5_mark 61 = .ok (.ior, 1) := by decide +kernel
theorem dX5_mark_62 : decode cX5_mark 62 = .ok (.goto 15, 3) := by decide +kernel
theorem dX5_mark_65 : decode cX5_mark 65 = .ok (.aload_n 0, 1) := by decide +kernel
theorem dX5_mark_66 : decode cX5_mark 66 = .ok (.getfield 33, 3) := by decide +kernel
theorem dX5_mark_69 : decode cX5_mark 69 = .ok (.iload_n 1, 1) := by decide +kernel
theorem dX5_mark_70 : decode cX5_mark 70 = .ok (.iaload, 1) := by decide +kernel
theorem dX5_mark_71 : decode cX5_mark 71 = .ok (.iconst 1, 1) := by decide +kernel
theorem dX5_mark_72 : decode cX5_mark 72 = .ok (.iload_n 2, 1) := by decide +kernel
theorem dX5_mark_73 : decode cX5_mark 73 = .ok (.ishl, 1) := by decide +kernel
theorem dX5_mark_74 : decode cX5_mark 74 = .ok (.iconst (-1), 1) := by decide +kernel
theorem dX5_mark_75 : decode cX5_mark 75 = .ok (.ixor, 1) := by decide +kernel
theorem dX5_mark_76 : decode cX5_mark 76 = .ok (.iand, 1) := by decide +kernel
theorem dX5_mark_77 : decode cX5_mark 77 = .ok (.iastore, 1) := by decide +kernel
theorem dX5_mark_78 : decode cX5_mark 78 = .ok (.iload 4, 2) := by decide +kernel
theorem dX5_mark_80 : decode cX5_mark 80 = .ok (.ireturn, 1) := by decide +kernel
set_option maxRecDepth 20000 in
theorem ggX5_station_X5_isThing : GoodIn wsX5_station wsX5_isThing := goodIn_r _ [11, 12, 13, 14, 10, 15, 29, 30, 31, 32, 33, 34, 35, 36, 37, 38, 39, 40, 41, 42, 43, 44, 45, 46, 47, 48, 49] (by decide +kernel) (by decide +kernel)
set_option maxRecDepth 20000 in
theorem gX5_station_X5_isThing : GoodIn wsX5_station (wsV RX5 76 RX5 yX5_isThing wsX5_isThing) := goodIn_app (goodIn_of _ (by decide +kernel)) ggX5_station_X5_isThing
set_option maxRecDepth 20000 in
theorem ggX5_station_X5_isPerson : GoodIn wsX5_station wsX5_isPerson := goodIn_r _ [19, 20, 13, 14, 10, 15, 29, 30, 31, 32, 33, 34, 35, 36, 37, 38, 39, 40, 41, 42, 43, 44, 45, 46, 47, 48, 49] (by decide +kernel) (by decide +kernel)
set_option maxRecDepth 20000 in
theorem gX5_station_X5_isPerson : GoodIn wsX5_station (wsV RX5 84 RX5 yX5_isPerson wsX5_isPerson) := goodIn_app (goodIn_of _ (by decide +kernel)) ggX5_station_X5_isPerson
set_option maxRecDepth 20000 in
theorem ggX5_station_X5_isLand : GoodIn wsX5_station wsX5_isLand := goodIn_r _ [23, 13, 14, 10, 15] (by decide +kernel) (by decide +kernel)
set_option maxRecDepth 20000 in
theorem gX5_station_X5_isLand : GoodIn wsX5_station (va_wsS RX5 91 yX5_isLand wsX5_isLand) := goodIn_app (goodIn_of _ (by decide +kernel)) ggX5_station_X5_isLand
set_option maxRecDepth 20000 in
theorem ggX5_station_X5_in : GoodIn wsX5_station wsX5_in := goodIn_r _ [15] (by decide +kernel) (by decide +kernel)
set_option maxRecDepth 20000 in
theorem gX5_station_X5_in : GoodIn wsX5_station (va_wsS RX5 69 yX5_in wsX5_in) := goodIn_app (goodIn_of _ (by decide +kernel)) ggX5_station_X5_in
set_option maxRecDepth 20000 in
theorem ggX5_station_X5_goes : GoodIn wsX5_station wsX5_goes := goodIn_r _ [27, 28, 29, 30, 31, 32, 33, 34, 35, 36, 37, 38, 39, 40, 41, 42, 43, 44, 45, 46, 47, 48, 49] (by decide +kernel) (by decide +kernel)
set_option maxRecDepth 20000 in
theorem gX5_station_X5_goes : GoodIn wsX5_station (wsV RX5 80 RX5 yX5_goes wsX5_goes) := goodIn_app (goodIn_of _ (by decide +kernel)) ggX5_station_X5_goes
theorem dX5_station_0 : decode cX5_station 0 = .ok (.aload_n 0, 1) := by decide +kernel
theorem dX5_station_1 : decode cX5_station 1 = .ok (.iload_n 1, 1) := by decide +kernel
theorem dX5_station_2 : decode cX5_station 2 = .ok (.invokevirtual 76, 3) := by decide +kernel
theorem dX5_station_5 : decode cX5_station 5 = .ok (.ifCond .eq 23, 3) := by decide +kernel
theorem dX5_station_8 : decode cX5_station 8 = .ok (.aload_n 0, 1) := by decide +kernel
theorem dX5_station_9 : decode cX5_station 9 = .ok (.iload_n 2, 1) := by decide +kernel
theorem dX5_station_10 : decode cX5_station 10 = .ok (.invokevirtual 84, 3) := by decide +kernel
theorem dX5_station_13 : decode cX5_station 13 = .ok (.ifCond .eq 15, 3) := by decide +kernel
theorem dX5_station_16 : decode cX5_station 16 = .ok (.iload 4, 2) := by decide +kernel
theorem dX5_station_18 : decode cX5_station 18 = .ok (.invokestatic 91, 3) := by decide +kernel
theorem dX5_station_21 : decode cX5_station 21 = .ok (.ifCond .eq 7, 3) := by decide +kernel
theorem dX5_station_24 : decode cX5_station 24 = .ok (.iconst 1, 1) := by decide +kernel
theorem dX5_station_25 : decode cX5_station 25 = .ok (.goto 4, 3) := by decide +kernel
theorem dX5_station_28 : decode cX5_station 28 = .ok (.iconst 0, 1) := by decide +kernel
theorem dX5_station_29 : decode cX5_station 29 = .ok (.istore 6, 2) := by decide +kernel
theorem dX5_station_31 : decode cX5_station 31 = .ok (.aload_n 0, 1) := by decide +kernel
theorem dX5_station_32 : decode cX5_station 32 = .ok (.iload 6, 2) := by decide +kernel
theorem dX5_station_34 : decode cX5_station 34 = .ok (.iload_n 3, 1) := by decide +kernel
theorem dX5_station_35 : decode cX5_station 35 = .ok (.iconst 0, 1) := by decide +kernel
theorem dX5_station_36 : decode cX5_station 36 = .ok (.iconst 5, 1) := by decide +kernel
theorem dX5_station_37 : decode cX5_station 37 = .ok (.invokestatic 69, 3) := by decide +kernel
theorem dX5_station_40 : decode cX5_station 40 = .ok (.ifCond .eq 22, 3) := by decide +kernel
theorem dX5_station_43 : decode cX5_station 43 = .ok (.iload 5, 2) := by decide +kernel
theorem dX5_station_45 : decode cX5_station 45 = .ok (.sipush 1900, 3) := by decide +kernel
theorem dX5_station_48 : decode cX5_station 48 = .ok (.aload_n 0, 1) := by decide +kernel
theorem dX5_station_49 : decode cX5_station 49 = .ok (.getfield 7, 3) := by decide +kernel
theorem dX5_station_52 : decode cX5_station 52 = .ok (.invokestatic 69, 3) := by decide +kernel
theorem dX5_station_55 : decode cX5_station 55 = .ok (.ifCond .eq 7, 3) := by decide +kernel
theorem dX5_station_58 : decode cX5_station 58 = .ok (.iconst 1, 1) := by decide +kernel
theorem dX5_station_59 : decode cX5_station 59 = .ok (.goto 4, 3) := by decide +kernel
theorem dX5_station_62 : decode cX5_station 62 = .ok (.iconst 0, 1) := by decide +kernel
theorem dX5_station_63 : decode cX5_station 63 = .ok (.iload 6, 2) := by decide +kernel
theorem dX5_station_65 : decode cX5_station 65 = .ok (.ifCond .eq 18, 3) := by decide +kernel
theorem dX5_station_68 : decode cX5_station 68 = .ok (.aload_n 0, 1) := by decide +kernel
theorem dX5_station_69 : decode cX5_station 69 = .ok (.getfield 39, 3) := by decide +kernel
theorem dX5_station_72 : decode cX5_station 72 = .ok (.iload_n 1, 1) := by decide +kernel
theorem dX5_station_73 : decode cX5_station 73 = .ok (.iaload, 1) := by decide +kernel
theorem dX5_station_74 : decode cX5_station 74 = .ok (.bipush 8, 2) := by decide +kernel
theorem dX5_station_76 : decode cX5_station 76 = .ok (.if_icmp .ge 7, 3) := by decide +kernel
theorem dX5_station_79 : decode cX5_station 79 = .ok (.iconst 1, 1) := by decide +kernel
theorem dX5_station_80 : decode cX5_station 80 = .ok (.goto 4, 3) := by decide +kernel
theorem dX5_station_83 : decode cX5_station 83 = .ok (.iconst 0, 1) := by decide +kernel
theorem dX5_station_84 : decode cX5_station 84 = .ok (.invokevirtual 80, 3) := by decide +kernel
theorem dX5_station_87 : decode cX5_station 87 = .ok (.ifCond .ne 5, 3) := by decide +kernel
theorem dX5_station_90 : decode cX5_station 90 = .ok (.iconst 0, 1) := by decide +kernel
theorem dX5_station_91 : decode cX5_station 91 = .ok (.ireturn, 1) := by decide +kernel
theorem dX5_station_92 : decode cX5_station 92 = .ok (.bipush 8, 2) := by decide +kernel
theorem dX5_station_94 : decode cX5_station 94 = .ok (.iload_n 1, 1) := by decide +kernel
theorem dX5_station_95 : decode cX5_station 95 = .ok (.imul, 1) := by decide +kernel
theorem dX5_station_96 : decode cX5_station 96 = .ok (.aload_n 0, 1) := by decide +kernel
theorem dX5_station_97 : decode cX5_station 97 = .ok (.getfield 39, 3) := by decide +kernel
theorem dX5_station_100 : decode cX5_station 100 = .ok (.iload_n 1, 1) := by decide +kernel
theorem dX5_station_101 : decode cX5_station 101 = .ok (.iaload, 1) := by decide +kernel
theorem dX5_station_102 : decode cX5_station 102 = .ok (.iadd, 1) := by decide +kernel
theorem dX5_station_103 : decode cX5_station 103 = .ok (.istore 7, 2) := by decide +kernel
theorem dX5_station_105 : decode cX5_station 105 = .ok (.aload_n 0, 1) := by decide +kernel
theorem dX5_station_106 : decode cX5_station 106 = .ok (.getfield 42, 3) := by decide +kernel
theorem dX5_station_109 : decode cX5_station 109 = .ok (.iload 7, 2) := by decide +kernel
theorem dX5_station_111 : decode cX5_station 111 = .ok (.iload_n 2, 1) := by decide +kernel
theorem dX5_station_112 : decode cX5_station 112 = .ok (.iastore, 1) := by decide +kernel
theorem dX5_station_113 : decode cX5_station 113 = .ok (.aload_n 0, 1) := by decide +kernel
theorem dX5_station_114 : decode cX5_station 114 = .ok (.getfield 45, 3) := by decide +kernel
theorem dX5_station_117 : decode cX5_station 117 = .ok (.iload 7, 2) := by decide +kernel
theorem dX5_station_119 : decode cX5_station 119 = .ok (.iload_n 3, 1) := by decide +kernel
theorem dX5_station_120 : decode cX5_station 120 = .ok (.iastore, 1) := by decide +kernel
theorem dX5_station_121 : decode cX5_station 121 = .ok (.aload_n 0, 1) := by decide +kernel
theorem dX5_station_122 : decode cX5_station 122 = .ok (.getfield 48, 3) := by decide +kernel
theorem dX5_station_125 : decode cX5_station 125 = .ok (.iload 7, 2) := by decide +kernel
theorem dX5_station_127 : decode cX5_station 127 = .ok (.iload 4, 2) := by decide +kernel
theorem dX5_station_129 : decode cX5_station 129 = .ok (.iastore, 1) := by decide +kernel
theorem dX5_station_130 : decode cX5_station 130 = .ok (.aload_n 0, 1) := by decide +kernel
theorem dX5_station_131 : decode cX5_station 131 = .ok (.getfield 51, 3) := by decide +kernel
theorem dX5_station_134 : decode cX5_station 134 = .ok (.iload 7, 2) := by decide +kernel
theorem dX5_station_136 : decode cX5_station 136 = .ok (.iload 5, 2) := by decide +kernel
theorem dX5_station_138 : decode cX5_station 138 = .ok (.iastore, 1) := by decide +kernel
theorem dX5_station_139 : decode cX5_station 139 = .ok (.aload_n 0, 1) := by decide +kernel
theorem dX5_station_140 : decode cX5_station 140 = .ok (.getfield 39, 3) := by decide +kernel
theorem dX5_station_143 : decode cX5_station 143 = .ok (.iload_n 1, 1) := by decide +kernel
theorem dX5_station_144 : decode cX5_station 144 = .ok (.dup2, 1) := by decide +kernel
theorem dX5_station_145 : decode cX5_station 145 = .ok (.iaload, 1) := by decide +kernel
theorem dX5_station_146 : decode cX5_station 146 = .ok (.iconst 1, 1) := by decide +kernel
theorem dX5_station_147 : decode cX5_station 147 = .ok (.iadd, 1) := by decide +kernel
theorem dX5_station_148 : decode cX5_station 148 = .ok (.iastore, 1) := by decide +kernel
theorem dX5_station_149 : decode cX5_station 149 = .ok (.aload_n 0, 1) := by decide +kernel
theorem dX5_station_150 : decode cX5_station 150 = .ok (.getfield 39, 3) := by decide +kernel
theorem dX5_station_153 : decode cX5_station 153 = .ok (.iload_n 1, 1) := by decide +kernel
theorem dX5_station_154 : decode cX5_station 154 = .ok (.iaload, 1) := by decide +kernel
theorem dX5_station_155 : decode cX5_station 155 = .ok (.iconst 1, 1) := by decide +kernel
theorem dX5_station_156 : decode cX5_station 156 = .ok (.isub, 1) := by decide +kernel
theorem dX5_station_157 : decode cX5_station 157 = .ok (.ireturn, 1) := by decide +kernel
set_option maxRecDepth 20000 in
theorem ggX5_rebut_X5_isStation : GoodIn wsX5_rebut wsX5_isStation := goodIn_r _ [7, 8, 9, 10, 11, 6, 12, 13, 14, 15, 16, 22, 23, 24, 25, 26, 27, 28, 29, 30, 31, 32, 33, 34, 35, 36, 37, 38, 39, 40, 41, 42] (by decide +kernel) (by decide +kernel)
set_option maxRecDepth 20000 in
theorem gX5_rebut_X5_isStation : GoodIn wsX5_rebut (wsV RX5 98 RX5 yX5_isStation wsX5_isStation) := goodIn_app (goodIn_of _ (by decide +kernel)) ggX5_rebut_X5_isStation
set_option maxRecDepth 20000 in
theorem ggX5_rebut_X5_goes : GoodIn wsX5_rebut wsX5_goes := goodIn_r _ [20, 21, 22, 23, 24, 25, 26, 27, 28, 29, 30, 31, 32, 33, 34, 35, 36, 37, 38, 39, 40, 41, 42] (by decide +kernel) (by decide +kernel)
set_option maxRecDepth 20000 in
theorem gX5_rebut_X5_goes : GoodIn wsX5_rebut (wsV RX5 80 RX5 yX5_goes wsX5_goes) := goodIn_app (goodIn_of _ (by decide +kernel)) ggX5_rebut_X5_goes
theorem dX5_rebut_0 : decode cX5_rebut 0 = .ok (.aload_n 0, 1) := by decide +kernel
theorem dX5_rebut_1 : decode cX5_rebut 1 = .ok (.iload_n 1, 1) := by decide +kernel
theorem dX5_rebut_2 : decode cX5_rebut 2 = .ok (.iload_n 2, 1) := by decide +kernel
theorem dX5_rebut_3 : decode cX5_rebut 3 = .ok (.invokevirtual 98, 3) := by decide +kernel
theorem dX5_rebut_6 : decode cX5_rebut 6 = .ok (.istore 4, 2) := by decide +kernel
theorem dX5_rebut_8 : decode cX5_rebut 8 = .ok (.iload 4, 2) := by decide +kernel
theorem dX5_rebut_10 : decode cX5_rebut 10 = .ok (.ifCond .eq 12, 3) := by decide +kernel
theorem dX5_rebut_13 : decode cX5_rebut 13 = .ok (.bipush 8, 2) := by decide +kernel
theorem dX5_rebut_15 : decode cX5_rebut 15 = .ok (.iload_n 1, 1) := by decide +kernel
theorem dX5_rebut_16 : decode cX5_rebut 16 = .ok (.imul, 1) := by decide +kernel
theorem dX5_rebut_17 : decode cX5_rebut 17 = .ok (.iload_n 2, 1) := by decide +kernel
theorem dX5_rebut_18 : decode cX5_rebut 18 = .ok (.iadd, 1) := by decide +kernel
theorem dX5_rebut_19 : decode cX5_rebut 19 = .ok (.goto 4, 3) := by decide +kernel
theorem dX5_rebut_22 : decode cX5_rebut 22 = .ok (.iconst 0, 1) := by decide +kernel
theorem dX5_rebut_23 : decode cX5_rebut 23 = .ok (.istore 5, 2) := by decide +kernel
theorem dX5_rebut_25 : decode cX5_rebut 25 = .ok (.aload_n 0, 1) := by decide +kernel
theorem dX5_rebut_26 : decode cX5_rebut 26 = .ok (.iload 4, 2) := by decide +kernel
theorem dX5_rebut_28 : decode cX5_rebut 28 = .ok (.aload_n 0, 1) := by decide +kernel
theorem dX5_rebut_29 : decode cX5_rebut 29 = .ok (.getfield 45, 3) := by decide +kernel
theorem dX5_rebut_32 : decode cX5_rebut 32 = .ok (.iload 5, 2) := by decide +kernel
theorem dX5_rebut_34 : decode cX5_rebut 34 = .ok (.iaload, 1) := by decide +kernel
theorem dX5_rebut_35 : decode cX5_rebut 35 = .ok (.ifCond .ne 7, 3) := by decide +kernel
theorem dX5_rebut_38 : decode cX5_rebut 38 = .ok (.iconst 1, 1) := by decide +kernel
theorem dX5_rebut_39 : decode cX5_rebut 39 = .ok (.goto 4, 3) := by decide +kernel
theorem dX5_rebut_42 : decode cX5_rebut 42 = .ok (.iconst 0, 1) := by decide +kernel
theorem dX5_rebut_43 : decode cX5_rebut 43 = .ok (.iconst 1, 1) := by decide +kernel
theorem dX5_rebut_44 : decode cX5_rebut 44 = .ok (.invokevirtual 80, 3) := by decide +kernel
theorem dX5_rebut_47 : decode cX5_rebut 47 = .ok (.ifCond .ne 5, 3) := by decide +kernel
theorem dX5_rebut_50 : decode cX5_rebut 50 = .ok (.iconst 0, 1) := by decide +kernel
theorem dX5_rebut_51 : decode cX5_rebut 51 = .ok (.ireturn, 1) := by decide +kernel
theorem dX5_rebut_52 : decode cX5_rebut 52 = .ok (.aload_n 0, 1) := by decide +kernel
theorem dX5_rebut_53 : decode cX5_rebut 53 = .ok (.getfield 54, 3) := by decide +kernel
theorem dX5_rebut_56 : decode cX5_rebut 56 = .ok (.iload 5, 2) := by decide +kernel
theorem dX5_rebut_58 : decode cX5_rebut 58 = .ok (.baload, 1) := by decide +kernel
theorem dX5_rebut_59 : decode cX5_rebut 59 = .ok (.istore 6, 2) := by decide +kernel
theorem dX5_rebut_61 : decode cX5_rebut 61 = .ok (.aload_n 0, 1) := by decide +kernel
theorem dX5_rebut_62 : decode cX5_rebut 62 = .ok (.getfield 54, 3) := by decide +kernel
theorem dX5_rebut_65 : decode cX5_rebut 65 = .ok (.iload 5, 2) := by decide +kernel
theorem dX5_rebut_67 : decode cX5_rebut 67 = .ok (.iload_n 3, 1) := by decide +kernel
theorem dX5_rebut_68 : decode cX5_rebut 68 = .ok (.bastore, 1) := by decide +kernel
theorem dX5_rebut_69 : decode cX5_rebut 69 = .ok (.iload 6, 2) := by decide +kernel
theorem dX5_rebut_71 : decode cX5_rebut 71 = .ok (.ireturn, 1) := by decide +kernel
set_option maxRecDepth 20000 in
theorem ggX5_settle_X5_isStation : GoodIn wsX5_settle wsX5_isStation := goodIn_r _ [6, 7, 8, 9, 10, 5, 11, 12, 13, 14, 15, 21, 22, 23, 24, 25, 26, 27, 28, 29, 30, 31, 32, 33, 34, 35, 36, 37, 38, 39, 40, 41] (by decide +kernel) (by decide +kernel)
set_option maxRecDepth 20000 in
theorem gX5_settle_X5_isStation : GoodIn wsX5_settle (wsV RX5 98 RX5 yX5_isStation wsX5_isStation) := goodIn_app (goodIn_of _ (by decide +kernel)) ggX5_settle_X5_isStation
set_option maxRecDepth 20000 in
theorem ggX5_settle_X5_goes : GoodIn wsX5_settle wsX5_goes := goodIn_r _ [19, 20, 21, 22, 23, 24, 25, 26, 27, 28, 29, 30, 31, 32, 33, 34, 35, 36, 37, 38, 39, 40, 41] (by decide +kernel) (by decide +kernel)
set_option maxRecDepth 20000 in
theorem gX5_settle_X5_goes : GoodIn wsX5_settle (wsV RX5 80 RX5 yX5_goes wsX5_goes) := goodIn_app (goodIn_of _ (by decide +kernel)) ggX5_settle_X5_goes
theorem dX5_settle_0 : decode cX5_settle 0 = .ok (.aload_n 0, 1) := by decide +kernel
theorem dX5_settle_1 : decode cX5_settle 1 = .ok (.aload_n 0, 1) := by decide +kernel
theorem dX5_settle_2 : decode cX5_settle 2 = .ok (.iload_n 1, 1) := by decide +kernel
theorem dX5_settle_3 : decode cX5_settle 3 = .ok (.iload_n 2, 1) := by decide +kernel
theorem dX5_settle_4 : decode cX5_settle 4 = .ok (.invokevirtual 98, 3) := by decide +kernel
theorem dX5_settle_7 : decode cX5_settle 7 = .ok (.iconst 1, 1) := by decide +kernel
theorem dX5_settle_8 : decode cX5_settle 8 = .ok (.iconst 1, 1) := by decide +kernel
theorem dX5_settle_9 : decode cX5_settle 9 = .ok (.invokevirtual 80, 3) := by decide +kernel
theorem dX5_settle_12 : decode cX5_settle 12 = .ok (.ifCond .ne 5, 3) := by decide +kernel
theorem dX5_settle_15 : decode cX5_settle 15 = .ok (.iconst 0, 1) := by decide +kernel
theorem dX5_settle_16 : decode cX5_settle 16 = .ok (.ireturn, 1) := by decide +kernel
theorem dX5_settle_17 : decode cX5_settle 17 = .ok (.aload_n 0, 1) := by decide +kernel
theorem dX5_settle_18 : decode cX5_settle 18 = .ok (.getfield 57, 3) := by decide +kernel
theorem dX5_settle_21 : decode cX5_settle 21 = .ok (.bipush 8, 2) := by decide +kernel
theorem dX5_settle_23 : decode cX5_settle 23 = .ok (.iload_n 1, 1) := by decide +kernel
theorem dX5_settle_24 : decode cX5_settle 24 = .ok (.imul, 1) := by decide +kernel
theorem dX5_settle_25 : decode cX5_settle 25 = .ok (.iload_n 2, 1) := by decide +kernel
theorem dX5_settle_26 : decode cX5_settle 26 = .ok (.iadd, 1) := by decide +kernel
theorem dX5_settle_27 : decode cX5_settle 27 = .ok (.baload, 1) := by decide +kernel
theorem dX5_settle_28 : decode cX5_settle 28 = .ok (.istore 4, 2) := by decide +kernel
theorem dX5_settle_30 : decode cX5_settle 30 = .ok (.aload_n 0, 1) := by decide +kernel
theorem dX5_settle_31 : decode cX5_settle 31 = .ok (.getfield 57, 3) := by decide +kernel
theorem dX5_settle_34 : decode cX5_settle 34 = .ok (.bipush 8, 2) := by decide +kernel
theorem dX5_settle_36 : decode cX5_settle 36 = .ok (.iload_n 1, 1) := by decide +kernel
theorem dX5_settle_37 : decode cX5_settle 37 = .ok (.imul, 1) := by decide +kernel
theorem dX5_settle_38 : decode cX5_settle 38 = .ok (.iload_n 2, 1) := by decide +kernel
theorem dX5_settle_39 : decode cX5_settle 39 = .ok (.iadd, 1) := by decide +kernel
theorem dX5_settle_40 : decode cX5_settle 40 = .ok (.iload_n 3, 1) := by decide +kernel
theorem dX5_settle_41 : decode cX5_settle 41 = .ok (.bastore, 1) := by decide +kernel
theorem dX5_settle_42 : decode cX5_settle 42 = .ok (.iload 4, 2) := by decide +kernel
theorem dX5_settle_44 : decode cX5_settle 44 = .ok (.ireturn, 1) := by decide +kernel
set_option maxRecDepth 20000 in
theorem ggX5_isPersecuted_X5_isPerson : GoodIn wsX5_isPersecuted wsX5_isPerson := goodIn_r _ [6, 7, 8, 9, 5, 10, 25, 26, 27, 28, 29, 30, 31, 32, 33, 34, 35, 36, 37, 38, 39, 40, 41, 42, 43, 44, 45] (by decide +kernel) (by decide +kernel)
set_option maxRecDepth 20000 in
theorem gX5_isPersecuted_X5_isPerson : GoodIn wsX5_isPersecuted (wsV RX5 84 RX5 yX5_isPerson wsX5_isPerson) := goodIn_app (goodIn_of _ (by decide +kernel)) ggX5_isPersecuted_X5_isPerson
set_option maxRecDepth 20000 in
theorem ggX5_isPersecuted_X5_isLand : GoodIn wsX5_isPersecuted wsX5_isLand := goodIn_r _ [13, 8, 9, 5, 10] (by decide +kernel) (by decide +kernel)
set_option maxRecDepth 20000 in
theorem gX5_isPersecuted_X5_isLand : GoodIn wsX5_isPersecuted (va_wsS RX5 91 yX5_isLand wsX5_isLand) := goodIn_app (goodIn_of _ (by decide +kernel)) ggX5_isPersecuted_X5_isLand
set_option maxRecDepth 20000 in
theorem ggX5_isPersecuted_X5_in : GoodIn wsX5_isPersecuted wsX5_in := goodIn_r _ [10] (by decide +kernel) (by decide +kernel)
set_option maxRecDepth 20000 in
theorem gX5_isPersecuted_X5_in : GoodIn wsX5_isPersecuted (va_wsS RX5 69 yX5_in wsX5_in) := goodIn_app (goodIn_of _ (by decide +kernel)) ggX5_isPersecuted_X5_in
set_option maxRecDepth 20000 in
theorem ggX5_isPersecuted_X5_goes : GoodIn wsX5_isPersecuted wsX5_goes := goodIn_r _ [17, 18, 25, 26, 27, 28, 29, 30, 31, 32, 33, 34, 35, 36, 37, 38, 39, 40, 41, 42, 43, 44, 45] (by decide +kernel) (by decide +kernel)
set_option maxRecDepth 20000 in
theorem gX5_isPersecuted_X5_goes : GoodIn wsX5_isPersecuted (wsV RX5 80 RX5 yX5_goes wsX5_goes) := goodIn_app (goodIn_of _ (by decide +kernel)) ggX5_isPersecuted_X5_goes
set_option maxRecDepth 20000 in
theorem ggX5_isPersecuted_X5_persecutes : GoodIn wsX5_isPersecuted wsX5_persecutes := goodIn_r _ [22, 23, 24, 8, 9, 5, 10, 25, 26, 27, 28, 29, 30, 31, 32, 33, 34, 35, 36, 37, 38, 39, 40, 41, 42, 43, 44, 45] (by decide +kernel) (by decide +kernel)
set_option maxRecDepth 20000 in
theorem gX5_isPersecuted_X5_persecutes : GoodIn wsX5_isPersecuted (wsV RX5 101 RX5 yX5_persecutes wsX5_persecutes) := goodIn_app (goodIn_of _ (by decide +kernel)) ggX5_isPersecuted_X5_persecutes
theorem dX5_isPersecuted_0 : decode cX5_isPersecuted 0 = .ok (.aload_n 0, 1) := by decide +kernel
theorem dX5_isPersecuted_1 : decode cX5_isPersecuted 1 = .ok (.aload_n 0, 1) := by decide +kernel
theorem dX5_isPersecuted_2 : decode cX5_isPersecuted 2 = .ok (.iload_n 1, 1) := by decide +kernel
theorem dX5_isPersecuted_3 : decode cX5_isPersecuted 3 = .ok (.invokevirtual 84, 3) := by decide +kernel
theorem dX5_isPersecuted_6 : decode cX5_isPersecuted 6 = .ok (.ifCond .eq 14, 3) := by decide +kernel
theorem dX5_isPersecuted_9 : decode cX5_isPersecuted 9 = .ok (.iload_n 2, 1) := by decide +kernel
theorem dX5_isPersecuted_10 : decode cX5_isPersecuted 10 = .ok (.invokestatic 91, 3) := by decide +kernel
theorem dX5_isPersecuted_13 : decode cX5_isPersecuted 13 = .ok (.ifCond .eq 7, 3) := by decide +kernel
theorem dX5_isPersecuted_16 : decode cX5_isPersecuted 16 = .ok (.iconst 1, 1) := by decide +kernel
theorem dX5_isPersecuted_17 : decode cX5_isPersecuted 17 = .ok (.goto 4, 3) := by decide +kernel
theorem dX5_isPersecuted_20 : decode cX5_isPersecuted 20 = .ok (.iconst 0, 1) := by decide +kernel
theorem dX5_isPersecuted_21 : decode cX5_isPersecuted 21 = .ok (.iload_n 3, 1) := by decide +kernel
theorem dX5_isPersecuted_22 : decode cX5_isPersecuted 22 = .ok (.sipush 1900, 3) := by decide +kernel
theorem dX5_isPersecuted_25 : decode cX5_isPersecuted 25 = .ok (.sipush 2100, 3) := by decide +kernel
theorem dX5_isPersecuted_28 : decode cX5_isPersecuted 28 = .ok (.invokestatic 69, 3) := by decide +kernel
theorem dX5_isPersecuted_31 : decode cX5_isPersecuted 31 = .ok (.iconst 1, 1) := by decide +kernel
theorem dX5_isPersecuted_32 : decode cX5_isPersecuted 32 = .ok (.invokevirtual 80, 3) := by decide +kernel
theorem dX5_isPersecuted_35 : decode cX5_isPersecuted 35 = .ok (.ifCond .eq 22, 3) := by decide +kernel
theorem dX5_isPersecuted_38 : decode cX5_isPersecuted 38 = .ok (.aload_n 0, 1) := by decide +kernel
theorem dX5_isPersecuted_39 : decode cX5_isPersecuted 39 = .ok (.aload_n 0, 1) := by decide +kernel
theorem dX5_isPersecuted_40 : decode cX5_isPersecuted 40 = .ok (.getfield 13, 3) := by decide +kernel
theorem dX5_isPersecuted_43 : decode cX5_isPersecuted 43 = .ok (.iload_n 1, 1) := by decide +kernel
theorem dX5_isPersecuted_44 : decode cX5_isPersecuted 44 = .ok (.iaload, 1) := by decide +kernel
theorem dX5_isPersecuted_45 : decode cX5_isPersecuted 45 = .ok (.iload_n 2, 1) := by decide +kernel
theorem dX5_isPersecuted_46 : decode cX5_isPersecuted 46 = .ok (.iload_n 3, 1) := by decide +kernel
theorem dX5_isPersecuted_47 : decode cX5_isPersecuted 47 = .ok (.invokevirtual 101, 3) := by decide +kernel
theorem dX5_isPersecuted_50 : decode cX5_isPersecuted 50 = .ok (.ifCond .eq 7, 3) := by decide +kernel
theorem dX5_isPersecuted_53 : decode cX5_isPersecuted 53 = .ok (.iconst 1, 1) := by decide +kernel
theorem dX5_isPersecuted_54 : decode cX5_isPersecuted 54 = .ok (.goto 4, 3) := by decide +kernel
theorem dX5_isPersecuted_57 : decode cX5_isPersecuted 57 = .ok (.iconst 0, 1) := by decide +kernel
theorem dX5_isPersecuted_58 : decode cX5_isPersecuted 58 = .ok (.ireturn, 1) := by decide +kernel
theorem dX5_livingOf_0 : decode cX5_livingOf 0 = .ok (.iconst 0, 1) := by decide +kernel
theorem dX5_livingOf_1 : decode cX5_livingOf 1 = .ok (.istore_n 2, 1) := by decide +kernel
theorem dX5_livingOf_2 : decode cX5_livingOf 2 = .ok (.iload_n 2, 1) := by decide +kernel
theorem dX5_livingOf_3 : decode cX5_livingOf 3 = .ok (.aload_n 0, 1) := by decide +kernel
theorem dX5_livingOf_4 : decode cX5_livingOf 4 = .ok (.getfield 24, 3) := by decide +kernel
theorem dX5_livingOf_7 : decode cX5_livingOf 7 = .ok (.iload_n 1, 1) := by decide +kernel
theorem dX5_livingOf_8 : decode cX5_livingOf 8 = .ok (.iaload, 1) := by decide +kernel
theorem dX5_livingOf_9 : decode cX5_livingOf 9 = .ok (.if_icmp .ge 40, 3) := by decide +kernel
theorem dX5_livingOf_12 : decode cX5_livingOf 12 = .ok (.aload_n 0, 1) := by decide +kernel
theorem dX5_livingOf_13 : decode cX5_livingOf 13 = .ok (.getfield 17, 3) := by decide +kernel
theorem dX5_livingOf_16 : decode cX5_livingOf 16 = .ok (.aload_n 0, 1) := by decide +kernel
theorem dX5_livingOf_17 : decode cX5_livingOf 17 = .ok (.getfield 21, 3) := by decide +kernel
theorem dX5_livingOf_20 : decode cX5_livingOf 20 = .ok (.bipush 12, 2) := by decide +kernel
theorem dX5_livingOf_22 : decode cX5_livingOf 22 = .ok (.iload_n 1, 1) := by decide +kernel
theorem dX5_livingOf_23 : decode cX5_livingOf 23 = .ok (.imul, 1) := by decide +kernel
theorem dX5_livingOf_24 : decode cX5_livingOf 24 = .ok (.iload_n 2, 1) := by decide +kernel
theorem dX5_livingOf_25 : decode cX5_livingOf 25 = .ok (.iadd, 1) := by decide +kernel
theorem dX5_livingOf_26 : decode cX5_livingOf 26 = .ok (.iaload, 1) := by decide +kernel
theorem dX5_livingOf_27 : decode cX5_livingOf 27 = .ok (.baload, 1) := by decide +kernel
theorem dX5_livingOf_28 : decode cX5_livingOf 28 = .ok (.ifCond .ne 15, 3) := by decide +kernel
theorem dX5_livingOf_31 : decode cX5_livingOf 31 = .ok (.aload_n 0, 1) := by decide +kernel
theorem dX5_livingOf_32 : decode cX5_livingOf 32 = .ok (.getfield 21, 3) := by decide +kernel
theorem dX5_livingOf_35 : decode cX5_livingOf 35 = .ok (.bipush 12, 2) := by decide +kernel
theorem dX5_livingOf_37 : decode cX5_livingOf 37 = .ok (.iload_n 1, 1) := by decide +kernel
theorem dX5_livingOf_38 : decode cX5_livingOf 38 = .ok (.imul, 1) := by decide +kernel
theorem dX5_livingOf_39 : decode cX5_livingOf 39 = .ok (.iload_n 2, 1) := by decide +kernel
theorem dX5_livingOf_40 : decode cX5_livingOf 40 = .ok (.iadd, 1) := by decide +kernel
theorem dX5_livingOf_41 : decode cX5_livingOf 41 = .ok (.iaload, 1) := by decide +kernel
theorem dX5_livingOf_42 : decode cX5_livingOf 42 = .ok (.ireturn, 1) := by decide +kernel
theorem dX5_livingOf_43 : decode cX5_livingOf 43 = .ok (.iinc 2 1, 3) := by decide +kernel
theorem dX5_livingOf_46 : decode cX5_livingOf 46 = .ok (.goto (-44), 3) := by decide +kernel
theorem dX5_livingOf_49 : decode cX5_livingOf 49 = .ok (.iconst (-1), 1) := by decide +kernel
theorem dX5_livingOf_50 : decode cX5_livingOf 50 = .ok (.ireturn, 1) := by decide +kernel
set_option maxRecDepth 20000 in
theorem ggX5_nearOf_X5_livingOf : GoodIn wsX5_nearOf wsX5_livingOf := goodIn_r _ [8, 1, 3, 2, 9, 10, 11, 12, 13, 14, 15, 16, 17, 18, 19, 20, 21, 22, 23, 24, 25, 26, 27, 28, 29] (by decide +kernel) (by decide +kernel)
set_option maxRecDepth 20000 in
theorem gX5_nearOf_X5_livingOf : GoodIn wsX5_nearOf (wsV RX5 104 RX5 yX5_livingOf wsX5_livingOf) := goodIn_app (goodIn_of _ (by decide +kernel)) ggX5_nearOf_X5_livingOf
theorem dX5_nearOf_0 : decode cX5_nearOf 0 = .ok (.iconst 0, 1) := by decide +kernel
theorem dX5_nearOf_1 : decode cX5_nearOf 1 = .ok (.istore_n 2, 1) := by decide +kernel
theorem dX5_nearOf_2 : decode cX5_nearOf 2 = .ok (.iload_n 2, 1) := by decide +kernel
theorem dX5_nearOf_3 : decode cX5_nearOf 3 = .ok (.aload_n 0, 1) := by decide +kernel
theorem dX5_nearOf_4 : decode cX5_nearOf 4 = .ok (.getfield 24, 3) := by decide +kernel
theorem dX5_nearOf_7 : decode cX5_nearOf 7 = .ok (.iload_n 1, 1) := by decide +kernel
theorem dX5_nearOf_8 : decode cX5_nearOf 8 = .ok (.iaload, 1) := by decide +kernel
theorem dX5_nearOf_9 : decode cX5_nearOf 9 = .ok (.if_icmp .ge 50, 3) := by decide +kernel
theorem dX5_nearOf_12 : decode cX5_nearOf 12 = .ok (.aload_n 0, 1) := by decide +kernel
theorem dX5_nearOf_13 : decode cX5_nearOf 13 = .ok (.getfield 21, 3) := by decide +kernel
theorem dX5_nearOf_16 : decode cX5_nearOf 16 = .ok (.bipush 12, 2) := by decide +kernel
theorem dX5_nearOf_18 : decode cX5_nearOf 18 = .ok (.iload_n 1, 1) := by decide +kernel
theorem dX5_nearOf_19 : decode cX5_nearOf 19 = .ok (.imul, 1) := by decide +kernel
theorem dX5_nearOf_20 : decode cX5_nearOf 20 = .ok (.iload_n 2, 1) := by decide +kernel
theorem dX5_nearOf_21 : decode cX5_nearOf 21 = .ok (.iadd, 1) := by decide +kernel
theorem dX5_nearOf_22 : decode cX5_nearOf 22 = .ok (.iaload, 1) := by decide +kernel
theorem dX5_nearOf_23 : decode cX5_nearOf 23 = .ok (.istore_n 3, 1) := by decide +kernel
theorem dX5_nearOf_24 : decode cX5_nearOf 24 = .ok (.aload_n 0, 1) := by decide +kernel
theorem dX5_nearOf_25 : decode cX5_nearOf 25 = .ok (.getfield 17, 3) := by decide +kernel
theorem dX5_nearOf_28 : decode cX5_nearOf 28 = .ok (.iload_n 3, 1) := by decide +kernel
theorem dX5_nearOf_29 : decode cX5_nearOf 29 = .ok (.baload, 1) := by decide +kernel
theorem dX5_nearOf_30 : decode cX5_nearOf 30 = .ok (.ifCond .eq 11, 3) := by decide +kernel
theorem dX5_nearOf_33 : decode cX5_nearOf 33 = .ok (.aload_n 0, 1) := by decide +kernel
theorem dX5_nearOf_34 : decode cX5_nearOf 34 = .ok (.iload_n 3, 1) := by decide +kernel
theorem dX5_nearOf_35 : decode cX5_nearOf 35 = .ok (.invokevirtual 104, 3) := by decide +kernel
theorem dX5_nearOf_38 : decode cX5_nearOf 38 = .ok (.goto 4, 3) := by decide +kernel
theorem dX5_nearOf_41 : decode cX5_nearOf 41 = .ok (.iload_n 3, 1) := by decide +kernel
theorem dX5_nearOf_42 : decode cX5_nearOf 42 = .ok (.istore 4, 2) := by decide +kernel
theorem dX5_nearOf_44 : decode cX5_nearOf 44 = .ok (.iload 4, 2) := by decide +kernel
theorem dX5_nearOf_46 : decode cX5_nearOf 46 = .ok (.iconst (-1), 1) := by decide +kernel
theorem dX5_nearOf_47 : decode cX5_nearOf 47 = .ok (.if_icmp .eq 6, 3) := by decide +kernel
theorem dX5_nearOf_50 : decode cX5_nearOf 50 = .ok (.iload 4, 2) := by decide +kernel
theorem dX5_nearOf_52 : decode cX5_nearOf 52 = .ok (.ireturn, 1) := by decide +kernel
theorem dX5_nearOf_53 : decode cX5_nearOf 53 = .ok (.iinc 2 1, 3) := by decide +kernel
theorem dX5_nearOf_56 : decode cX5_nearOf 56 = .ok (.goto (-54), 3) := by decide +kernel
theorem dX5_nearOf_59 : decode cX5_nearOf 59 = .ok (.iconst (-1), 1) := by decide +kernel
theorem dX5_nearOf_60 : decode cX5_nearOf 60 = .ok (.ireturn, 1) := by decide +kernel
set_option maxRecDepth 20000 in
theorem ggX5_findsHeir_X5_nearOf : GoodIn wsX5_findsHeir wsX5_nearOf := goodIn_r _ [8, 1, 2, 3, 9, 10, 11, 7, 12, 13, 14, 15, 16, 17, 18, 19, 20, 21, 22, 23, 24, 25, 26, 27, 28, 29, 30, 31, 32, 33] (by decide +kernel) (by decide +kernel)
set_option maxRecDepth 20000 in
theorem gX5_findsHeir_X5_nearOf : GoodIn wsX5_findsHeir (wsV RX5 108 RX5 yX5_nearOf wsX5_nearOf) := goodIn_app (goodIn_of _ (by decide +kernel)) ggX5_findsHeir_X5_nearOf
theorem dX5_findsHeir_0 : decode cX5_findsHeir 0 = .ok (.iconst 0, 1) := by decide +kernel
theorem dX5_findsHeir_1 : decode cX5_findsHeir 1 = .ok (.istore_n 2, 1) := by decide +kernel
theorem dX5_findsHeir_2 : decode cX5_findsHeir 2 = .ok (.iload_n 2, 1) := by decide +kernel
theorem dX5_findsHeir_3 : decode cX5_findsHeir 3 = .ok (.aload_n 0, 1) := by decide +kernel
theorem dX5_findsHeir_4 : decode cX5_findsHeir 4 = .ok (.getfield 24, 3) := by decide +kernel
theorem dX5_findsHeir_7 : decode cX5_findsHeir 7 = .ok (.iload_n 1, 1) := by decide +kernel
theorem dX5_findsHeir_8 : decode cX5_findsHeir 8 = .ok (.iaload, 1) := by decide +kernel
theorem dX5_findsHeir_9 : decode cX5_findsHeir 9 = .ok (.if_icmp .ge 50, 3) := by decide +kernel
theorem dX5_findsHeir_12 : decode cX5_findsHeir 12 = .ok (.aload_n 0, 1) := by decide +kernel
theorem dX5_findsHeir_13 : decode cX5_findsHeir 13 = .ok (.getfield 21, 3) := by decide +kernel
theorem dX5_findsHeir_16 : decode cX5_findsHeir 16 = .ok (.bipush 12, 2) := by decide +kernel
theorem dX5_findsHeir_18 : decode cX5_findsHeir 18 = .ok (.iload_n 1, 1) := by decide +kernel
theorem dX5_findsHeir_19 : decode cX5_findsHeir 19 = .ok (.imul, 1) := by decide +kernel
theorem dX5_findsHeir_20 : decode cX5_findsHeir 20 = .ok (.iload_n 2, 1) := by decide +kernel
theorem dX5_findsHeir_21 : decode cX5_findsHeir 21 = .ok (.iadd, 1) := by decide +kernel
theorem dX5_findsHeir_22 : decode cX5_findsHeir 22 = .ok (.iaload, 1) := by decide +kernel
theorem dX5_findsHeir_23 : decode cX5_findsHeir 23 = .ok (.istore_n 3, 1) := by decide +kernel
theorem dX5_findsHeir_24 : decode cX5_findsHeir 24 = .ok (.aload_n 0, 1) := by decide +kernel
theorem dX5_findsHeir_25 : decode cX5_findsHeir 25 = .ok (.getfield 17, 3) := by decide +kernel
theorem dX5_findsHeir_28 : decode cX5_findsHeir 28 = .ok (.iload_n 3, 1) := by decide +kernel
theorem dX5_findsHeir_29 : decode cX5_findsHeir 29 = .ok (.baload, 1) := by decide +kernel
theorem dX5_findsHeir_30 : decode cX5_findsHeir 30 = .ok (.ifCond .eq 11, 3) := by decide +kernel
theorem dX5_findsHeir_33 : decode cX5_findsHeir 33 = .ok (.aload_n 0, 1) := by decide +kernel
theorem dX5_findsHeir_34 : decode cX5_findsHeir 34 = .ok (.iload_n 3, 1) := by decide +kernel
theorem dX5_findsHeir_35 : decode cX5_findsHeir 35 = .ok (.invokevirtual 108, 3) := by decide +kernel
theorem dX5_findsHeir_38 : decode cX5_findsHeir 38 = .ok (.goto 4, 3) := by decide +kernel
theorem dX5_findsHeir_41 : decode cX5_findsHeir 41 = .ok (.iload_n 3, 1) := by decide +kernel
theorem dX5_findsHeir_42 : decode cX5_findsHeir 42 = .ok (.istore 4, 2) := by decide +kernel
theorem dX5_findsHeir_44 : decode cX5_findsHeir 44 = .ok (.iload 4, 2) := by decide +kernel
theorem dX5_findsHeir_46 : decode cX5_findsHeir 46 = .ok (.iconst (-1), 1) := by decide +kernel
theorem dX5_findsHeir_47 : decode cX5_findsHeir 47 = .ok (.if_icmp .eq 6, 3) := by decide +kernel
theorem dX5_findsHeir_50 : decode cX5_findsHeir 50 = .ok (.iload 4, 2) := by decide +kernel
theorem dX5_findsHeir_52 : decode cX5_findsHeir 52 = .ok (.ireturn, 1) := by decide +kernel
theorem dX5_findsHeir_53 : decode cX5_findsHeir 53 = .ok (.iinc 2 1, 3) := by decide +kernel
theorem dX5_findsHeir_56 : decode cX5_findsHeir 56 = .ok (.goto (-54), 3) := by decide +kernel
theorem dX5_findsHeir_59 : decode cX5_findsHeir 59 = .ok (.iconst (-1), 1) := by decide +kernel
theorem dX5_findsHeir_60 : decode cX5_findsHeir 60 = .ok (.ireturn, 1) := by decide +kernel
set_option maxRecDepth 20000 in
theorem ggX5_heirOf_X5_isPerson : GoodIn wsX5_heirOf wsX5_isPerson := goodIn_r _ [5, 6, 7, 8, 4, 9, 30, 31, 32, 33, 34, 35, 36, 37, 38, 39, 40, 41, 42, 43, 44, 45, 46, 47, 48, 49, 50] (by decide +kernel) (by decide +kernel)
set_option maxRecDepth 20000 in
theorem gX5_heirOf_X5_isPerson : GoodIn wsX5_heirOf (wsV RX5 84 RX5 yX5_isPerson wsX5_isPerson) := goodIn_app (goodIn_of _ (by decide +kernel)) ggX5_heirOf_X5_isPerson
set_option maxRecDepth 20000 in
theorem ggX5_heirOf_X5_goes : GoodIn wsX5_heirOf wsX5_goes := goodIn_r _ [13, 14, 30, 31, 32, 33, 34, 35, 36, 37, 38, 39, 40, 41, 42, 43, 44, 45, 46, 47, 48, 49, 50] (by decide +kernel) (by decide +kernel)
set_option maxRecDepth 20000 in
theorem gX5_heirOf_X5_goes : GoodIn wsX5_heirOf (wsV RX5 80 RX5 yX5_goes wsX5_goes) := goodIn_app (goodIn_of _ (by decide +kernel)) ggX5_heirOf_X5_goes
set_option maxRecDepth 20000 in
theorem ggX5_heirOf_X5_findsHeir : GoodIn wsX5_heirOf wsX5_findsHeir := goodIn_r _ [18, 19, 20, 21, 22, 23, 24, 4, 25, 26, 27, 28, 29, 30, 31, 32, 33, 34, 35, 36, 37, 38, 39, 40, 41, 42, 43, 44, 45, 46, 47, 48, 49, 50] (by decide +kernel) (by decide +kernel)
set_option maxRecDepth 20000 in
theorem gX5_heirOf_X5_findsHeir : GoodIn wsX5_heirOf (wsV RX5 111 RX5 yX5_findsHeir wsX5_findsHeir) := goodIn_app (goodIn_of _ (by decide +kernel)) ggX5_heirOf_X5_findsHeir
theorem dX5_heirOf_0 : decode cX5_heirOf 0 = .ok (.aload_n 0, 1) := by decide +kernel
theorem dX5_heirOf_1 : decode cX5_heirOf 1 = .ok (.aload_n 0, 1) := by decide +kernel
theorem dX5_heirOf_2 : decode cX5_heirOf 2 = .ok (.iload_n 1, 1) := by decide +kernel
theorem dX5_heirOf_3 : decode cX5_heirOf 3 = .ok (.invokevirtual 84, 3) := by decide +kernel
theorem dX5_heirOf_6 : decode cX5_heirOf 6 = .ok (.iconst 1, 1) := by decide +kernel
theorem dX5_heirOf_7 : decode cX5_heirOf 7 = .ok (.iconst 1, 1) := by decide +kernel
theorem dX5_heirOf_8 : decode cX5_heirOf 8 = .ok (.invokevirtual 80, 3) := by decide +kernel
theorem dX5_heirOf_11 : decode cX5_heirOf 11 = .ok (.ifCond .eq 11, 3) := by decide +kernel
theorem dX5_heirOf_14 : decode cX5_heirOf 14 = .ok (.aload_n 0, 1) := by decide +kernel
theorem dX5_heirOf_15 : decode cX5_heirOf 15 = .ok (.iload_n 1, 1) := by decide +kernel
theorem dX5_heirOf_16 : decode cX5_heirOf 16 = .ok (.invokevirtual 111, 3) := by decide +kernel
theorem dX5_heirOf_19 : decode cX5_heirOf 19 = .ok (.goto 4, 3) := by decide +kernel
theorem dX5_heirOf_22 : decode cX5_heirOf 22 = .ok (.iconst 0, 1) := by decide +kernel
theorem dX5_heirOf_23 : decode cX5_heirOf 23 = .ok (.ireturn, 1) := by decide +kernel
theorem dX5_bits_0 : decode cX5_bits 0 = .ok (.iconst 0, 1) := by decide +kernel
theorem dX5_bits_1 : decode cX5_bits 1 = .ok (.istore_n 1, 1) := by decide +kernel
theorem dX5_bits_2 : decode cX5_bits 2 = .ok (.iconst 0, 1) := by decide +kernel
theorem dX5_bits_3 : decode cX5_bits 3 = .ok (.istore_n 2, 1) := by decide +kernel
theorem dX5_bits_4 : decode cX5_bits 4 = .ok (.iload_n 2, 1) := by decide +kernel
theorem dX5_bits_5 : decode cX5_bits 5 = .ok (.bipush 16, 2) := by decide +kernel
theorem dX5_bits_7 : decode cX5_bits 7 = .ok (.if_icmp .ge 17, 3) := by decide +kernel
theorem dX5_bits_10 : decode cX5_bits 10 = .ok (.iload_n 1, 1) := by decide +kernel
theorem dX5_bits_11 : decode cX5_bits 11 = .ok (.iload_n 0, 1) := by decide +kernel
theorem dX5_bits_12 : decode cX5_bits 12 = .ok (.iload_n 2, 1) := by decide +kernel
theorem dX5_bits_13 : decode cX5_bits 13 = .ok (.ishr, 1) := by decide +kernel
theorem dX5_bits_14 : decode cX5_bits 14 = .ok (.iconst 1, 1) := by decide +kernel
theorem dX5_bits_15 : decode cX5_bits 15 = .ok (.iand, 1) := by decide +kernel
theorem dX5_bits_16 : decode cX5_bits 16 = .ok (.iadd, 1) := by decide +kernel
theorem dX5_bits_17 : decode cX5_bits 17 = .ok (.istore_n 1, 1) := by decide +kernel
theorem dX5_bits_18 : decode cX5_bits 18 = .ok (.iinc 2 1, 3) := by decide +kernel
theorem dX5_bits_21 : decode cX5_bits 21 = .ok (.goto (-17), 3) := by decide +kernel
theorem dX5_bits_24 : decode cX5_bits 24 = .ok (.iload_n 1, 1) := by decide +kernel
theorem dX5_bits_25 : decode cX5_bits 25 = .ok (.ireturn, 1) := by decide +kernel
set_option maxRecDepth 20000 in
theorem ggX5_likes_X5_bits : GoodIn wsX5_likes wsX5_bits := goodIn_r _ [6] (by decide +kernel) (by decide +kernel)
set_option maxRecDepth 20000 in
theorem gX5_likes_X5_bits : GoodIn wsX5_likes (va_wsS RX5 114 yX5_bits wsX5_bits) := goodIn_app (goodIn_of _ (by decide +kernel)) ggX5_likes_X5_bits
theorem dX5_likes_0 : decode cX5_likes 0 = .ok (.aload_n 0, 1) := by decide +kernel
theorem dX5_likes_1 : decode cX5_likes 1 = .ok (.getfield 36, 3) := by decide +kernel
theorem dX5_likes_4 : decode cX5_likes 4 = .ok (.iload_n 1, 1) := by decide +kernel
theorem dX5_likes_5 : decode cX5_likes 5 = .ok (.iaload, 1) := by decide +kernel
theorem dX5_likes_6 : decode cX5_likes 6 = .ok (.aload_n 0, 1) := by decide +kernel
theorem dX5_likes_7 : decode cX5_likes 7 = .ok (.getfield 36, 3) := by decide +kernel
theorem dX5_likes_10 : decode cX5_likes 10 = .ok (.iload_n 2, 1) := by decide +kernel
theorem dX5_likes_11 : decode cX5_likes 11 = .ok (.iaload, 1) := by decide +kernel
theorem dX5_likes_12 : decode cX5_likes 12 = .ok (.isub, 1) := by decide +kernel
theorem dX5_likes_13 : decode cX5_likes 13 = .ok (.istore_n 3, 1) := by decide +kernel
theorem dX5_likes_14 : decode cX5_likes 14 = .ok (.bipush 10, 2) := by decide +kernel
theorem dX5_likes_16 : decode cX5_likes 16 = .ok (.aload_n 0, 1) := by decide +kernel
theorem dX5_likes_17 : decode cX5_likes 17 = .ok (.getfield 33, 3) := by decide +kernel
theorem dX5_likes_20 : decode cX5_likes 20 = .ok (.iload_n 1, 1) := by decide +kernel
theorem dX5_likes_21 : decode cX5_likes 21 = .ok (.iaload, 1) := by decide +kernel
theorem dX5_likes_22 : decode cX5_likes 22 = .ok (.aload_n 0, 1) := by decide +kernel
theorem dX5_likes_23 : decode cX5_likes 23 = .ok (.getfield 33, 3) := by decide +kernel
theorem dX5_likes_26 : decode cX5_likes 26 = .ok (.iload_n 2, 1) := by decide +kernel
theorem dX5_likes_27 : decode cX5_likes 27 = .ok (.iaload, 1) := by decide +kernel
theorem dX5_likes_28 : decode cX5_likes 28 = .ok (.iand, 1) := by decide +kernel
theorem dX5_likes_29 : decode cX5_likes 29 = .ok (.invokestatic 114, 3) := by decide +kernel
theorem dX5_likes_32 : decode cX5_likes 32 = .ok (.imul, 1) := by decide +kernel
theorem dX5_likes_33 : decode cX5_likes 33 = .ok (.iconst 5, 1) := by decide +kernel
theorem dX5_likes_34 : decode cX5_likes 34 = .ok (.aload_n 0, 1) := by decide +kernel
theorem dX5_likes_35 : decode cX5_likes 35 = .ok (.getfield 33, 3) := by decide +kernel
theorem dX5_likes_38 : decode cX5_likes 38 = .ok (.iload_n 1, 1) := by decide +kernel
theorem dX5_likes_39 : decode cX5_likes 39 = .ok (.iaload, 1) := by decide +kernel
theorem dX5_likes_40 : decode cX5_likes 40 = .ok (.aload_n 0, 1) := by decide +kernel
theorem dX5_likes_41 : decode cX5_likes 41 = .ok (.getfield 33, 3) := by decide +kernel
theorem dX5_likes_44 : decode cX5_likes 44 = .ok (.iload_n 2, 1) := by decide +kernel
theorem dX5_likes_45 : decode cX5_likes 45 = .ok (.iaload, 1) := by decide +kernel
theorem dX5_likes_46 : decode cX5_likes 46 = .ok (.ixor, 1) := by decide +kernel
theorem dX5_likes_47 : decode cX5_likes 47 = .ok (.invokestatic 114, 3) := by decide +kernel
theorem dX5_likes_50 : decode cX5_likes 50 = .ok (.imul, 1) := by decide +kernel
theorem dX5_likes_51 : decode cX5_likes 51 = .ok (.isub, 1) := by decide +kernel
theorem dX5_likes_52 : decode cX5_likes 52 = .ok (.iload_n 3, 1) := by decide +kernel
theorem dX5_likes_53 : decode cX5_likes 53 = .ok (.ifCond .ge 8, 3) := by decide +kernel
theorem dX5_likes_56 : decode cX5_likes 56 = .ok (.iload_n 3, 1) := by decide +kernel
theorem dX5_likes_57 : decode cX5_likes 57 = .ok (.ineg, 1) := by decide +kernel
theorem dX5_likes_58 : decode cX5_likes 58 = .ok (.goto 4, 3) := by decide +kernel
theorem dX5_likes_61 : decode cX5_likes 61 = .ok (.iload_n 3, 1) := by decide +kernel
theorem dX5_likes_62 : decode cX5_likes 62 = .ok (.isub, 1) := by decide +kernel
theorem dX5_likes_63 : decode cX5_likes 63 = .ok (.ireturn, 1) := by decide +kernel
set_option maxRecDepth 20000 in
theorem ggX5_likeness_X5_isThing : GoodIn wsX5_likeness wsX5_isThing := goodIn_r _ [5, 6, 7, 8, 4, 9, 24, 25, 26, 27, 28, 29, 30, 31, 32, 33, 34, 35, 36, 37, 38, 39, 40, 41, 42, 43, 44] (by decide +kernel) (by decide +kernel)
set_option maxRecDepth 20000 in
theorem gX5_likeness_X5_isThing : GoodIn wsX5_likeness (wsV RX5 76 RX5 yX5_isThing wsX5_isThing) := goodIn_app (goodIn_of _ (by decide +kernel)) ggX5_likeness_X5_isThing
set_option maxRecDepth 20000 in
theorem ggX5_likeness_X5_goes : GoodIn wsX5_likeness wsX5_goes := goodIn_r _ [13, 14, 24, 25, 26, 27, 28, 29, 30, 31, 32, 33, 34, 35, 36, 37, 38, 39, 40, 41, 42, 43, 44] (by decide +kernel) (by decide +kernel)
set_option maxRecDepth 20000 in
theorem gX5_likeness_X5_goes : GoodIn wsX5_likeness (wsV RX5 80 RX5 yX5_goes wsX5_goes) := goodIn_app (goodIn_of _ (by decide +kernel)) ggX5_likeness_X5_goes
set_option maxRecDepth 20000 in
theorem ggX5_likeness_X5_likes : GoodIn wsX5_likeness wsX5_likes := goodIn_r _ [18, 19, 20, 21, 22, 4, 23, 24, 25, 26, 27, 28, 29, 30, 31, 32, 33, 34, 35, 36, 37, 38, 39, 40, 41, 42, 43, 44] (by decide +kernel) (by decide +kernel)
set_option maxRecDepth 20000 in
theorem gX5_likeness_X5_likes : GoodIn wsX5_likeness (wsV RX5 117 RX5 yX5_likes wsX5_likes) := goodIn_app (goodIn_of _ (by decide +kernel)) ggX5_likeness_X5_likes
theorem dX5_likeness_0 : decode cX5_likeness 0 = .ok (.aload_n 0, 1) := by decide +kernel
theorem dX5_likeness_1 : decode cX5_likeness 1 = .ok (.aload_n 0, 1) := by decide +kernel
theorem dX5_likeness_2 : decode cX5_likeness 2 = .ok (.iload_n 1, 1) := by decide +kernel
theorem dX5_likeness_3 : decode cX5_likeness 3 = .ok (.invokevirtual 76, 3) := by decide +kernel
theorem dX5_likeness_6 : decode cX5_likeness 6 = .ok (.ifCond .eq 15, 3) := by decide +kernel
theorem dX5_likeness_9 : decode cX5_likeness 9 = .ok (.aload_n 0, 1) := by decide +kernel
theorem dX5_likeness_10 : decode cX5_likeness 10 = .ok (.iload_n 2, 1) := by decide +kernel
theorem dX5_likeness_11 : decode cX5_likeness 11 = .ok (.invokevirtual 76, 3) := by decide +kernel
theorem dX5_likeness_14 : decode cX5_likeness 14 = .ok (.ifCond .eq 7, 3) := by decide +kernel
theorem dX5_likeness_17 : decode cX5_likeness 17 = .ok (.iconst 1, 1) := by decide +kernel
theorem dX5_likeness_18 : decode cX5_likeness 18 = .ok (.goto 4, 3) := by decide +kernel
theorem dX5_likeness_21 : decode cX5_likeness 21 = .ok (.iconst 0, 1) := by decide +kernel
theorem dX5_likeness_22 : decode cX5_likeness 22 = .ok (.iconst 1, 1) := by decide +kernel
theorem dX5_likeness_23 : decode cX5_likeness 23 = .ok (.iconst 1, 1) := by decide +kernel
theorem dX5_likeness_24 : decode cX5_likeness 24 = .ok (.invokevirtual 80, 3) := by decide +kernel
theorem dX5_likeness_27 : decode cX5_likeness 27 = .ok (.ifCond .eq 12, 3) := by decide +kernel
theorem dX5_likeness_30 : decode cX5_likeness 30 = .ok (.aload_n 0, 1) := by decide +kernel
theorem dX5_likeness_31 : decode cX5_likeness 31 = .ok (.iload_n 1, 1) := by decide +kernel
theorem dX5_likeness_32 : decode cX5_likeness 32 = .ok (.iload_n 2, 1) := by decide +kernel
theorem dX5_likeness_33 : decode cX5_likeness 33 = .ok (.invokevirtual 117, 3) := by decide +kernel
theorem dX5_likeness_36 : decode cX5_likeness 36 = .ok (.goto 4, 3) := by decide +kernel
theorem dX5_likeness_39 : decode cX5_likeness 39 = .ok (.iconst 0, 1) := by decide +kernel
theorem dX5_likeness_40 : decode cX5_likeness 40 = .ok (.ireturn, 1) := by decide +kernel
set_option maxRecDepth 20000 in
theorem ggX5_likest_X5_isThing : GoodIn wsX5_likest wsX5_isThing := goodIn_r _ [6, 1, 7, 8, 5, 9, 24, 25, 26, 27, 28, 29, 30, 31, 32, 33, 34, 35, 36, 37, 38, 39, 40, 41, 42, 43, 44] (by decide +kernel) (by decide +kernel)
set_option maxRecDepth 20000 in
theorem gX5_likest_X5_isThing : GoodIn wsX5_likest (wsV RX5 76 RX5 yX5_isThing wsX5_isThing) := goodIn_app (goodIn_of _ (by decide +kernel)) ggX5_likest_X5_isThing
set_option maxRecDepth 20000 in
theorem ggX5_likest_X5_goes : GoodIn wsX5_likest wsX5_goes := goodIn_r _ [13, 14, 24, 25, 26, 27, 28, 29, 30, 31, 32, 33, 34, 35, 36, 37, 38, 39, 40, 41, 42, 43, 44] (by decide +kernel) (by decide +kernel)
set_option maxRecDepth 20000 in
theorem gX5_likest_X5_goes : GoodIn wsX5_likest (wsV RX5 80 RX5 yX5_goes wsX5_goes) := goodIn_app (goodIn_of _ (by decide +kernel)) ggX5_likest_X5_goes
set_option maxRecDepth 20000 in
theorem ggX5_likest_X5_likes : GoodIn wsX5_likest wsX5_likes := goodIn_r _ [18, 19, 20, 21, 22, 5, 23, 24, 25, 26, 27, 28, 29, 30, 31, 32, 33, 34, 35, 36, 37, 38, 39, 40, 41, 42, 43, 44] (by decide +kernel) (by decide +kernel)
set_option maxRecDepth 20000 in
theorem gX5_likest_X5_likes : GoodIn wsX5_likest (wsV RX5 117 RX5 yX5_likes wsX5_likes) := goodIn_app (goodIn_of _ (by decide +kernel)) ggX5_likest_X5_likes
theorem dX5_likest_0 : decode cX5_likest 0 = .ok (.aload_n 0, 1) := by decide +kernel
theorem dX5_likest_1 : decode cX5_likest 1 = .ok (.aload_n 0, 1) := by decide +kernel
theorem dX5_likest_2 : decode cX5_likest 2 = .ok (.iload_n 1, 1) := by decide +kernel
theorem dX5_likest_3 : decode cX5_likest 3 = .ok (.invokevirtual 76, 3) := by decide +kernel
theorem dX5_likest_6 : decode cX5_likest 6 = .ok (.iconst 1, 1) := by decide +kernel
theorem dX5_likest_7 : decode cX5_likest 7 = .ok (.iconst 1, 1) := by decide +kernel
theorem dX5_likest_8 : decode cX5_likest 8 = .ok (.invokevirtual 80, 3) := by decide +kernel
theorem dX5_likest_11 : decode cX5_likest 11 = .ok (.ifCond .ne 5, 3) := by decide +kernel
theorem dX5_likest_14 : decode cX5_likest 14 = .ok (.iconst 0, 1) := by decide +kernel
theorem dX5_likest_15 : decode cX5_likest 15 = .ok (.ireturn, 1) := by decide +kernel
theorem dX5_likest_16 : decode cX5_likest 16 = .ok (.iconst (-1), 1) := by decide +kernel
theorem dX5_likest_17 : decode cX5_likest 17 = .ok (.istore_n 2, 1) := by decide +kernel
theorem dX5_likest_18 : decode cX5_likest 18 = .ok (.iconst 0, 1) := by decide +kernel
theorem dX5_likest_19 : decode cX5_likest 19 = .ok (.istore_n 3, 1) := by decide +kernel
theorem dX5_likest_20 : decode cX5_likest 20 = .ok (.iload_n 3, 1) := by decide +kernel
theorem dX5_likest_21 : decode cX5_likest 21 = .ok (.aload_n 0, 1) := by decide +kernel
theorem dX5_likest_22 : decode cX5_likest 22 = .ok (.getfield 73, 3) := by decide +kernel
theorem dX5_likest_25 : decode cX5_likest 25 = .ok (.if_icmp .ge 40, 3) := by decide +kernel
theorem dX5_likest_28 : decode cX5_likest 28 = .ok (.iload_n 3, 1) := by decide +kernel
theorem dX5_likest_29 : decode cX5_likest 29 = .ok (.iload_n 1, 1) := by decide +kernel
theorem dX5_likest_30 : decode cX5_likest 30 = .ok (.if_icmp .eq 27, 3) := by decide +kernel
theorem dX5_likest_33 : decode cX5_likest 33 = .ok (.iload_n 2, 1) := by decide +kernel
theorem dX5_likest_34 : decode cX5_likest 34 = .ok (.iconst (-1), 1) := by decide +kernel
theorem dX5_likest_35 : decode cX5_likest 35 = .ok (.if_icmp .eq 18, 3) := by decide +kernel
theorem dX5_likest_38 : decode cX5_likest 38 = .ok (.aload_n 0, 1) := by decide +kernel
theorem dX5_likest_39 : decode cX5_likest 39 = .ok (.iload_n 1, 1) := by decide +kernel
theorem dX5_likest_40 : decode cX5_likest 40 = .ok (.iload_n 3, 1) := by decide +kernel
theorem dX5_likest_41 : decode cX5_likest 41 = .ok (.invokevirtual 117, 3) := by decide +kernel
theorem dX5_likest_44 : decode cX5_likest 44 = .ok (.aload_n 0, 1) := by decide +kernel
theorem dX5_likest_45 : decode cX5_likest 45 = .ok (.iload_n 1, 1) := by decide +kernel
theorem dX5_likest_46 : decode cX5_likest 46 = .ok (.iload_n 2, 1) := by decide +kernel
theorem dX5_likest_47 : decode cX5_likest 47 = .ok (.invokevirtual 117, 3) := by decide +kernel
theorem dX5_likest_50 : decode cX5_likest 50 = .ok (.if_icmp .le 7, 3) := by decide +kernel
theorem dX5_likest_53 : decode cX5_likest 53 = .ok (.iload_n 3, 1) := by decide +kernel
theorem dX5_likest_54 : decode cX5_likest 54 = .ok (.goto 4, 3) := by decide +kernel
theorem dX5_likest_57 : decode cX5_likest 57 = .ok (.iload_n 2, 1) := by decide +kernel
theorem dX5_likest_58 : decode cX5_likest 58 = .ok (.istore_n 2, 1) := by decide +kernel
theorem dX5_likest_59 : decode cX5_likest 59 = .ok (.iinc 3 1, 3) := by decide +kernel
theorem dX5_likest_62 : decode cX5_likest 62 = .ok (.goto (-42), 3) := by decide +kernel
theorem dX5_likest_65 : decode cX5_likest 65 = .ok (.iload_n 2, 1) := by decide +kernel
theorem dX5_likest_66 : decode cX5_likest 66 = .ok (.ireturn, 1) := by decide +kernel
theorem dX5_lays_0 : decode cX5_lays 0 = .ok (.bipush 8, 2) := by decide +kernel
theorem dX5_lays_2 : decode cX5_lays 2 = .ok (.iload_n 1, 1) := by decide +kernel
theorem dX5_lays_3 : decode cX5_lays 3 = .ok (.imul, 1) := by decide +kernel
theorem dX5_lays_4 : decode cX5_lays 4 = .ok (.istore_n 2, 1) := by decide +kernel
theorem dX5_lays_5 : decode cX5_lays 5 = .ok (.iconst 0, 1) := by decide +kernel
theorem dX5_lays_6 : decode cX5_lays 6 = .ok (.istore_n 3, 1) := by decide +kernel
theorem dX5_lays_7 : decode cX5_lays 7 = .ok (.iload_n 3, 1) := by decide +kernel
theorem dX5_lays_8 : decode cX5_lays 8 = .ok (.aload_n 0, 1) := by decide +kernel
theorem dX5_lays_9 : decode cX5_lays 9 = .ok (.getfield 39, 3) := by decide +kernel
theorem dX5_lays_12 : decode cX5_lays 12 = .ok (.iload_n 1, 1) := by decide +kernel
theorem dX5_lays_13 : decode cX5_lays 13 = .ok (.iaload, 1) := by decide +kernel
theorem dX5_lays_14 : decode cX5_lays 14 = .ok (.if_icmp .ge 74, 3) := by decide +kernel
theorem dX5_lays_17 : decode cX5_lays 17 = .ok (.iload_n 3, 1) := by decide +kernel
theorem dX5_lays_18 : decode cX5_lays 18 = .ok (.istore 4, 2) := by decide +kernel
theorem dX5_lays_20 : decode cX5_lays 20 = .ok (.iload 4, 2) := by decide +kernel
theorem dX5_lays_22 : decode cX5_lays 22 = .ok (.ifCond .le 52, 3) := by decide +kernel
theorem dX5_lays_25 : decode cX5_lays 25 = .ok (.aload_n 0, 1) := by decide +kernel
theorem dX5_lays_26 : decode cX5_lays 26 = .ok (.getfield 51, 3) := by decide +kernel
theorem dX5_lays_29 : decode cX5_lays 29 = .ok (.iload_n 2, 1) := by decide +kernel
theorem dX5_lays_30 : decode cX5_lays 30 = .ok (.aload_n 0, 1) := by decide +kernel
theorem dX5_lays_31 : decode cX5_lays 31 = .ok (.getfield 60, 3) := by decide +kernel
theorem dX5_lays_34 : decode cX5_lays 34 = .ok (.iload 4, 2) := by decide +kernel
theorem dX5_lays_36 : decode cX5_lays 36 = .ok (.iconst 1, 1) := by decide +kernel
theorem dX5_lays_37 : decode cX5_lays 37 = .ok (.isub, 1) := by decide +kernel
theorem dX5_lays_38 : decode cX5_lays 38 = .ok (.iaload, 1) := by decide +kernel
theorem dX5_lays_39 : decode cX5_lays 39 = .ok (.iadd, 1) := by decide +kernel
theorem dX5_lays_40 : decode cX5_lays 40 = .ok (.iaload, 1) := by decide +kernel
theorem dX5_lays_41 : decode cX5_lays 41 = .ok (.aload_n 0, 1) := by decide +kernel
theorem dX5_lays_42 : decode cX5_lays 42 = .ok (.getfield 51, 3) := by decide +kernel
theorem dX5_lays_45 : decode cX5_lays 45 = .ok (.iload_n 2, 1) := by decide +kernel
theorem dX5_lays_46 : decode cX5_lays 46 = .ok (.iload_n 3, 1) := by decide +kernel
theorem dX5_lays_47 : decode cX5_lays 47 = .ok (.iadd, 1) := by decide +kernel
theorem dX5_lays_48 : decode cX5_lays 48 = .ok (.iaload, 1) := by decide +kernel
theorem dX5_lays_49 : decode cX5_lays 49 = .ok (.if_icmp .le 25, 3) := by decide +kernel
theorem dX5_lays_52 : decode cX5_lays 52 = .ok (.aload_n 0, 1) := by decide +kernel
theorem dX5_lays_53 : decode cX5_lays 53 = .ok (.getfield 60, 3) := by decide +kernel
theorem dX5_lays_56 : decode cX5_lays 56 = .ok (.iload 4, 2) := by decide +kernel
theorem dX5_lays_58 : decode cX5_lays 58 = .ok (.aload_n 0, 1) := by decide +kernel
theorem dX5_lays_59 : decode cX5_lays 59 = .ok (.getfield 60, 3) := by decide +kernel
theorem dX5_lays_62 : decode cX5_lays 62 = .ok (.iload 4, 2) := by decide +kernel
theorem dX5_lays_64 : decode cX5_lays 64 = .ok (.iconst 1, 1) := by decide +kernel
theorem dX5_lays_65 : decode cX5_lays 65 = .ok (.isub, 1) := by decide +kernel
theorem dX5_lays_66 : decode cX5_lays 66 = .ok (.iaload, 1) := by decide +kernel
theorem dX5_lays_67 : decode cX5_lays 67 = .ok (.iastore, 1) := by decide +kernel
theorem dX5_lays_68 : decode cX5_lays 68 = .ok (.iinc 4 (-1), 3) := by decide +kernel
theorem dX5_lays_71 : decode cX5_lays 71 = .ok (.goto (-51), 3) := by decide +kernel
theorem dX5_lays_74 : decode cX5_lays 74 = .ok (.aload_n 0, 1) := by decide +kernel
theorem dX5_lays_75 : decode cX5_lays 75 = .ok (.getfield 60, 3) := by decide +kernel
theorem dX5_lays_78 : decode cX5_lays 78 = .ok (.iload 4, 2) := by decide +kernel
theorem dX5_lays_80 : decode cX5_lays 80 = .ok (.iload_n 3, 1) := by decide +kernel
theorem dX5_lays_81 : decode cX5_lays 81 = .ok (.iastore, 1) := by decide +kernel
theorem dX5_lays_82 : decode cX5_lays 82 = .ok (.iinc 3 1, 3) := by decide +kernel
theorem dX5_lays_85 : decode cX5_lays 85 = .ok (.goto (-78), 3) := by decide +kernel
theorem dX5_lays_88 : decode cX5_lays 88 = .ok (.aload_n 0, 1) := by decide +kernel
theorem dX5_lays_89 : decode cX5_lays 89 = .ok (.getfield 39, 3) := by decide +kernel
theorem dX5_lays_92 : decode cX5_lays 92 = .ok (.iload_n 1, 1) := by decide +kernel
theorem dX5_lays_93 : decode cX5_lays 93 = .ok (.iaload, 1) := by decide +kernel
theorem dX5_lays_94 : decode cX5_lays 94 = .ok (.ireturn, 1) := by decide +kernel
set_option maxRecDepth 20000 in
theorem ggX5_stationAt_X5_isThing : GoodIn wsX5_stationAt wsX5_isThing := goodIn_r _ [6, 7, 8, 9, 5, 10, 22, 23, 24, 25, 26, 27, 28, 29, 30, 31, 32, 33, 34, 35, 36, 37, 38, 39, 40, 41, 42] (by decide +kernel) (by decide +kernel)
set_option maxRecDepth 20000 in
theorem gX5_stationAt_X5_isThing : GoodIn wsX5_stationAt (wsV RX5 76 RX5 yX5_isThing wsX5_isThing) := goodIn_app (goodIn_of _ (by decide +kernel)) ggX5_stationAt_X5_isThing
set_option maxRecDepth 20000 in
theorem ggX5_stationAt_X5_goes : GoodIn wsX5_stationAt wsX5_goes := goodIn_r _ [14, 15, 22, 23, 24, 25, 26, 27, 28, 29, 30, 31, 32, 33, 34, 35, 36, 37, 38, 39, 40, 41, 42] (by decide +kernel) (by decide +kernel)
set_option maxRecDepth 20000 in
theorem gX5_stationAt_X5_goes : GoodIn wsX5_stationAt (wsV RX5 80 RX5 yX5_goes wsX5_goes) := goodIn_app (goodIn_of _ (by decide +kernel)) ggX5_stationAt_X5_goes
set_option maxRecDepth 20000 in
theorem ggX5_stationAt_X5_lays : GoodIn wsX5_stationAt wsX5_lays := goodIn_r _ [19, 20, 21, 1, 22, 23, 24, 25, 26, 27, 28, 29, 30, 31, 32, 33, 34, 35, 36, 37, 38, 39, 40, 41, 42] (by decide +kernel) (by decide +kernel)
set_option maxRecDepth 20000 in
theorem gX5_stationAt_X5_lays : GoodIn wsX5_stationAt (wsV RX5 121 RX5 yX5_lays wsX5_lays) := goodIn_app (goodIn_of _ (by decide +kernel)) ggX5_stationAt_X5_lays
theorem dX5_stationAt_0 : decode cX5_stationAt 0 = .ok (.aload_n 0, 1) := by decide +kernel
theorem dX5_stationAt_1 : decode cX5_stationAt 1 = .ok (.aload_n 0, 1) := by decide +kernel
theorem dX5_stationAt_2 : decode cX5_stationAt 2 = .ok (.iload_n 1, 1) := by decide +kernel
theorem dX5_stationAt_3 : decode cX5_stationAt 3 = .ok (.invokevirtual 76, 3) := by decide +kernel
theorem dX5_stationAt_6 : decode cX5_stationAt 6 = .ok (.ifCond .eq 11, 3) := by decide +kernel
theorem dX5_stationAt_9 : decode cX5_stationAt 9 = .ok (.iload_n 2, 1) := by decide +kernel
theorem dX5_stationAt_10 : decode cX5_stationAt 10 = .ok (.ifCond .lt 7, 3) := by decide +kernel
theorem dX5_stationAt_13 : decode cX5_stationAt 13 = .ok (.iconst 1, 1) := by decide +kernel
theorem dX5_stationAt_14 : decode cX5_stationAt 14 = .ok (.goto 4, 3) := by decide +kernel
theorem dX5_stationAt_17 : decode cX5_stationAt 17 = .ok (.iconst 0, 1) := by decide +kernel
theorem dX5_stationAt_18 : decode cX5_stationAt 18 = .ok (.iconst 1, 1) := by decide +kernel
theorem dX5_stationAt_19 : decode cX5_stationAt 19 = .ok (.iconst 1, 1) := by decide +kernel
theorem dX5_stationAt_20 : decode cX5_stationAt 20 = .ok (.invokevirtual 80, 3) := by decide +kernel
theorem dX5_stationAt_23 : decode cX5_stationAt 23 = .ok (.ifCond .ne 5, 3) := by decide +kernel
theorem dX5_stationAt_26 : decode cX5_stationAt 26 = .ok (.iconst 0, 1) := by decide +kernel
theorem dX5_stationAt_27 : decode cX5_stationAt 27 = .ok (.ireturn, 1) := by decide +kernel
theorem dX5_stationAt_28 : decode cX5_stationAt 28 = .ok (.iload_n 2, 1) := by decide +kernel
theorem dX5_stationAt_29 : decode cX5_stationAt 29 = .ok (.aload_n 0, 1) := by decide +kernel
theorem dX5_stationAt_30 : decode cX5_stationAt 30 = .ok (.iload_n 1, 1) := by decide +kernel
theorem dX5_stationAt_31 : decode cX5_stationAt 31 = .ok (.invokevirtual 121, 3) := by decide +kernel
theorem dX5_stationAt_34 : decode cX5_stationAt 34 = .ok (.if_icmp .ge 12, 3) := by decide +kernel
theorem dX5_stationAt_37 : decode cX5_stationAt 37 = .ok (.aload_n 0, 1) := by decide +kernel
theorem dX5_stationAt_38 : decode cX5_stationAt 38 = .ok (.getfield 60, 3) := by decide +kernel
theorem dX5_stationAt_41 : decode cX5_stationAt 41 = .ok (.iload_n 2, 1) := by decide +kernel
theorem dX5_stationAt_42 : decode cX5_stationAt 42 = .ok (.iaload, 1) := by decide +kernel
theorem dX5_stationAt_43 : decode cX5_stationAt 43 = .ok (.goto 4, 3) := by decide +kernel
theorem dX5_stationAt_46 : decode cX5_stationAt 46 = .ok (.iconst (-1), 1) := by decide +kernel
theorem dX5_stationAt_47 : decode cX5_stationAt 47 = .ok (.ireturn, 1) := by decide +kernel
set_option maxRecDepth 20000 in
theorem ggX5_loses_X5_persecutes : GoodIn wsX5_loses wsX5_persecutes := goodIn_r _ [12, 13, 14, 15, 16, 11, 17, 18, 19, 20, 21, 22, 23, 24, 25, 26, 27, 28, 29, 30, 31, 32, 33, 34, 35, 36, 37, 38] (by decide +kernel) (by decide +kernel)
set_option maxRecDepth 20000 in
theorem gX5_loses_X5_persecutes : GoodIn wsX5_loses (wsV RX5 101 RX5 yX5_persecutes wsX5_persecutes) := goodIn_app (goodIn_of _ (by decide +kernel)) ggX5_loses_X5_persecutes
theorem dX5_loses_0 : decode cX5_loses 0 = .ok (.iload_n 2, 1) := by decide +kernel
theorem dX5_loses_1 : decode cX5_loses 1 = .ok (.ifCond .ne 5, 3) := by decide +kernel
theorem dX5_loses_4 : decode cX5_loses 4 = .ok (.iconst 0, 1) := by decide +kernel
theorem dX5_loses_5 : decode cX5_loses 5 = .ok (.ireturn, 1) := by decide +kernel
theorem dX5_loses_6 : decode cX5_loses 6 = .ok (.bipush 8, 2) := by decide +kernel
theorem dX5_loses_8 : decode cX5_loses 8 = .ok (.iload_n 1, 1) := by decide +kernel
theorem dX5_loses_9 : decode cX5_loses 9 = .ok (.imul, 1) := by decide +kernel
theorem dX5_loses_10 : decode cX5_loses 10 = .ok (.aload_n 0, 1) := by decide +kernel
theorem dX5_loses_11 : decode cX5_loses 11 = .ok (.getfield 60, 3) := by decide +kernel
theorem dX5_loses_14 : decode cX5_loses 14 = .ok (.iload_n 2, 1) := by decide +kernel
theorem dX5_loses_15 : decode cX5_loses 15 = .ok (.iaload, 1) := by decide +kernel
theorem dX5_loses_16 : decode cX5_loses 16 = .ok (.iadd, 1) := by decide +kernel
theorem dX5_loses_17 : decode cX5_loses 17 = .ok (.istore_n 3, 1) := by decide +kernel
theorem dX5_loses_18 : decode cX5_loses 18 = .ok (.aload_n 0, 1) := by decide +kernel
theorem dX5_loses_19 : decode cX5_loses 19 = .ok (.getfield 42, 3) := by decide +kernel
theorem dX5_loses_22 : decode cX5_loses 22 = .ok (.bipush 8, 2) := by decide +kernel
theorem dX5_loses_24 : decode cX5_loses 24 = .ok (.iload_n 1, 1) := by decide +kernel
theorem dX5_loses_25 : decode cX5_loses 25 = .ok (.imul, 1) := by decide +kernel
theorem dX5_loses_26 : decode cX5_loses 26 = .ok (.aload_n 0, 1) := by decide +kernel
theorem dX5_loses_27 : decode cX5_loses 27 = .ok (.getfield 60, 3) := by decide +kernel
theorem dX5_loses_30 : decode cX5_loses 30 = .ok (.iload_n 2, 1) := by decide +kernel
theorem dX5_loses_31 : decode cX5_loses 31 = .ok (.iconst 1, 1) := by decide +kernel
theorem dX5_loses_32 : decode cX5_loses 32 = .ok (.isub, 1) := by decide +kernel
theorem dX5_loses_33 : decode cX5_loses 33 = .ok (.iaload, 1) := by decide +kernel
theorem dX5_loses_34 : decode cX5_loses 34 = .ok (.iadd, 1) := by decide +kernel
theorem dX5_loses_35 : decode cX5_loses 35 = .ok (.iaload, 1) := by decide +kernel
theorem dX5_loses_36 : decode cX5_loses 36 = .ok (.istore 4, 2) := by decide +kernel
theorem dX5_loses_38 : decode cX5_loses 38 = .ok (.aload_n 0, 1) := by decide +kernel
theorem dX5_loses_39 : decode cX5_loses 39 = .ok (.getfield 45, 3) := by decide +kernel
theorem dX5_loses_42 : decode cX5_loses 42 = .ok (.iload_n 3, 1) := by decide +kernel
theorem dX5_loses_43 : decode cX5_loses 43 = .ok (.iaload, 1) := by decide +kernel
theorem dX5_loses_44 : decode cX5_loses 44 = .ok (.iconst 3, 1) := by decide +kernel
theorem dX5_loses_45 : decode cX5_loses 45 = .ok (.if_icmp .ge 47, 3) := by decide +kernel
theorem dX5_loses_48 : decode cX5_loses 48 = .ok (.aload_n 0, 1) := by decide +kernel
theorem dX5_loses_49 : decode cX5_loses 49 = .ok (.getfield 45, 3) := by decide +kernel
theorem dX5_loses_52 : decode cX5_loses 52 = .ok (.iload_n 3, 1) := by decide +kernel
theorem dX5_loses_53 : decode cX5_loses 53 = .ok (.iaload, 1) := by decide +kernel
theorem dX5_loses_54 : decode cX5_loses 54 = .ok (.ifCond .ne 42, 3) := by decide +kernel
theorem dX5_loses_57 : decode cX5_loses 57 = .ok (.aload_n 0, 1) := by decide +kernel
theorem dX5_loses_58 : decode cX5_loses 58 = .ok (.getfield 54, 3) := by decide +kernel
theorem dX5_loses_61 : decode cX5_loses 61 = .ok (.iload_n 3, 1) := by decide +kernel
theorem dX5_loses_62 : decode cX5_loses 62 = .ok (.baload, 1) := by decide +kernel
theorem dX5_loses_63 : decode cX5_loses 63 = .ok (.ifCond .ne 33, 3) := by decide +kernel
theorem dX5_loses_66 : decode cX5_loses 66 = .ok (.aload_n 0, 1) := by decide +kernel
theorem dX5_loses_67 : decode cX5_loses 67 = .ok (.aload_n 0, 1) := by decide +kernel
theorem dX5_loses_68 : decode cX5_loses 68 = .ok (.getfield 13, 3) := by decide +kernel
theorem dX5_loses_71 : decode cX5_loses 71 = .ok (.iload 4, 2) := by decide +kernel
theorem dX5_loses_73 : decode cX5_loses 73 = .ok (.iaload, 1) := by decide +kernel
theorem dX5_loses_74 : decode cX5_loses 74 = .ok (.aload_n 0, 1) := by decide +kernel
theorem dX5_loses_75 : decode cX5_loses 75 = .ok (.getfield 48, 3) := by decide +kernel
theorem dX5_loses_78 : decode cX5_loses 78 = .ok (.iload_n 3, 1) := by decide +kernel
theorem dX5_loses_79 : decode cX5_loses 79 = .ok (.iaload, 1) := by decide +kernel
theorem dX5_loses_80 : decode cX5_loses 80 = .ok (.aload_n 0, 1) := by decide +kernel
theorem dX5_loses_81 : decode cX5_loses 81 = .ok (.getfield 51, 3) := by decide +kernel
theorem dX5_loses_84 : decode cX5_loses 84 = .ok (.iload_n 3, 1) := by decide +kernel
theorem dX5_loses_85 : decode cX5_loses 85 = .ok (.iaload, 1) := by decide +kernel
theorem dX5_loses_86 : decode cX5_loses 86 = .ok (.invokevirtual 101, 3) := by decide +kernel
theorem dX5_loses_89 : decode cX5_loses 89 = .ok (.ifCond .eq 7, 3) := by decide +kernel
theorem dX5_loses_92 : decode cX5_loses 92 = .ok (.iconst 1, 1) := by decide +kernel
theorem dX5_loses_93 : decode cX5_loses 93 = .ok (.goto 4, 3) := by decide +kernel
theorem dX5_loses_96 : decode cX5_loses 96 = .ok (.iconst 0, 1) := by decide +kernel
theorem dX5_loses_97 : decode cX5_loses 97 = .ok (.ireturn, 1) := by decide +kernel
set_option maxRecDepth 20000 in
theorem ggX5_isLoss_X5_isStation : GoodIn wsX5_isLoss wsX5_isStation := goodIn_r _ [6, 7, 8, 9, 10, 5, 11, 12, 13, 14, 15, 41, 42, 43, 44, 45, 46, 47, 48, 49, 50, 51, 52, 53, 54, 55, 56, 57, 58, 59, 60, 61] (by decide +kernel) (by decide +kernel)
set_option maxRecDepth 20000 in
theorem gX5_isLoss_X5_isStation : GoodIn wsX5_isLoss (wsV RX5 98 RX5 yX5_isStation wsX5_isStation) := goodIn_app (goodIn_of _ (by decide +kernel)) ggX5_isLoss_X5_isStation
set_option maxRecDepth 20000 in
theorem ggX5_isLoss_X5_goes : GoodIn wsX5_isLoss wsX5_goes := goodIn_r _ [19, 20, 41, 42, 43, 44, 45, 46, 47, 48, 49, 50, 51, 52, 53, 54, 55, 56, 57, 58, 59, 60, 61] (by decide +kernel) (by decide +kernel)
set_option maxRecDepth 20000 in
theorem gX5_isLoss_X5_goes : GoodIn wsX5_isLoss (wsV RX5 80 RX5 yX5_goes wsX5_goes) := goodIn_app (goodIn_of _ (by decide +kernel)) ggX5_isLoss_X5_goes
set_option maxRecDepth 20000 in
theorem ggX5_isLoss_X5_lays : GoodIn wsX5_isLoss wsX5_lays := goodIn_r _ [24, 7, 25, 1, 41, 42, 43, 44, 45, 46, 47, 48, 49, 50, 51, 52, 53, 54, 55, 56, 57, 58, 59, 60, 61] (by decide +kernel) (by decide +kernel)
set_option maxRecDepth 20000 in
theorem gX5_isLoss_X5_lays : GoodIn wsX5_isLoss (wsV RX5 121 RX5 yX5_lays wsX5_lays) := goodIn_app (goodIn_of _ (by decide +kernel)) ggX5_isLoss_X5_lays
set_option maxRecDepth 20000 in
theorem ggX5_isLoss_X5_loses : GoodIn wsX5_isLoss wsX5_loses := goodIn_r _ [29, 1, 30, 31, 32, 33, 34, 25, 35, 36, 37, 5, 38, 39, 40, 13, 14, 15, 41, 42, 43, 44, 45, 46, 47, 48, 49, 50, 51, 52, 53, 54, 55, 56, 57, 58, 59, 60, 61] (by decide +kernel) (by decide +kernel)
set_option maxRecDepth 20000 in
theorem gX5_isLoss_X5_loses : GoodIn wsX5_isLoss (wsV RX5 124 RX5 yX5_loses wsX5_loses) := goodIn_app (goodIn_of _ (by decide +kernel)) ggX5_isLoss_X5_loses
theorem dX5_isLoss_0 : decode cX5_isLoss 0 = .ok (.aload_n 0, 1) := by decide +kernel
theorem dX5_isLoss_1 : decode cX5_isLoss 1 = .ok (.aload_n 0, 1) := by decide +kernel
theorem dX5_isLoss_2 : decode cX5_isLoss 2 = .ok (.iload_n 1, 1) := by decide +kernel
theorem dX5_isLoss_3 : decode cX5_isLoss 3 = .ok (.iload_n 2, 1) := by decide +kernel
theorem dX5_isLoss_4 : decode cX5_isLoss 4 = .ok (.invokevirtual 98, 3) := by decide +kernel
theorem dX5_isLoss_7 : decode cX5_isLoss 7 = .ok (.iconst 1, 1) := by decide +kernel
theorem dX5_isLoss_8 : decode cX5_isLoss 8 = .ok (.iconst 1, 1) := by decide +kernel
theorem dX5_isLoss_9 : decode cX5_isLoss 9 = .ok (.invokevirtual 80, 3) := by decide +kernel
theorem dX5_isLoss_12 : decode cX5_isLoss 12 = .ok (.ifCond .ne 5, 3) := by decide +kernel
theorem dX5_isLoss_15 : decode cX5_isLoss 15 = .ok (.iconst 0, 1) := by decide +kernel
theorem dX5_isLoss_16 : decode cX5_isLoss 16 = .ok (.ireturn, 1) := by decide +kernel
theorem dX5_isLoss_17 : decode cX5_isLoss 17 = .ok (.aload_n 0, 1) := by decide +kernel
theorem dX5_isLoss_18 : decode cX5_isLoss 18 = .ok (.iload_n 1, 1) := by decide +kernel
theorem dX5_isLoss_19 : decode cX5_isLoss 19 = .ok (.invokevirtual 121, 3) := by decide +kernel
theorem dX5_isLoss_22 : decode cX5_isLoss 22 = .ok (.istore_n 3, 1) := by decide +kernel
theorem dX5_isLoss_23 : decode cX5_isLoss 23 = .ok (.iconst 0, 1) := by decide +kernel
theorem dX5_isLoss_24 : decode cX5_isLoss 24 = .ok (.istore 4, 2) := by decide +kernel
theorem dX5_isLoss_26 : decode cX5_isLoss 26 = .ok (.iconst 0, 1) := by decide +kernel
theorem dX5_isLoss_27 : decode cX5_isLoss 27 = .ok (.istore 5, 2) := by decide +kernel
theorem dX5_isLoss_29 : decode cX5_isLoss 29 = .ok (.iload 5, 2) := by decide +kernel
theorem dX5_isLoss_31 : decode cX5_isLoss 31 = .ok (.iload_n 3, 1) := by decide +kernel
theorem dX5_isLoss_32 : decode cX5_isLoss 32 = .ok (.if_icmp .ge 42, 3) := by decide +kernel
theorem dX5_isLoss_35 : decode cX5_isLoss 35 = .ok (.iload 4, 2) := by decide +kernel
theorem dX5_isLoss_37 : decode cX5_isLoss 37 = .ok (.ifCond .ne 24, 3) := by decide +kernel
theorem dX5_isLoss_40 : decode cX5_isLoss 40 = .ok (.aload_n 0, 1) := by decide +kernel
theorem dX5_isLoss_41 : decode cX5_isLoss 41 = .ok (.getfield 60, 3) := by decide +kernel
theorem dX5_isLoss_44 : decode cX5_isLoss 44 = .ok (.iload 5, 2) := by decide +kernel
theorem dX5_isLoss_46 : decode cX5_isLoss 46 = .ok (.iaload, 1) := by decide +kernel
theorem dX5_isLoss_47 : decode cX5_isLoss 47 = .ok (.iload_n 2, 1) := by decide +kernel
theorem dX5_isLoss_48 : decode cX5_isLoss 48 = .ok (.if_icmp .ne 17, 3) := by decide +kernel
theorem dX5_isLoss_51 : decode cX5_isLoss 51 = .ok (.aload_n 0, 1) := by decide +kernel
theorem dX5_isLoss_52 : decode cX5_isLoss 52 = .ok (.iload_n 1, 1) := by decide +kernel
theorem dX5_isLoss_53 : decode cX5_isLoss 53 = .ok (.iload 5, 2) := by decide +kernel
theorem dX5_isLoss_55 : decode cX5_isLoss 55 = .ok (.invokevirtual 124, 3) := by decide +kernel
theorem dX5_isLoss_58 : decode cX5_isLoss 58 = .ok (.ifCond .eq 7, 3) := by decide +kernel
theorem dX5_isLoss_61 : decode cX5_isLoss 61 = .ok (.iconst 1, 1) := by decide +kernel
theorem dX5_isLoss_62 : decode cX5_isLoss 62 = .ok (.goto 4, 3) := by decide +kernel
theorem dX5_isLoss_65 : decode cX5_isLoss 65 = .ok (.iconst 0, 1) := by decide +kernel
theorem dX5_isLoss_66 : decode cX5_isLoss 66 = .ok (.istore 4, 2) := by decide +kernel
theorem dX5_isLoss_68 : decode cX5_isLoss 68 = .ok (.iinc 5 1, 3) := by decide +kernel
theorem dX5_isLoss_71 : decode cX5_isLoss 71 = .ok (.goto (-42), 3) := by decide +kernel
theorem dX5_isLoss_74 : decode cX5_isLoss 74 = .ok (.iload 4, 2) := by decide +kernel
theorem dX5_isLoss_76 : decode cX5_isLoss 76 = .ok (.ireturn, 1) := by decide +kernel
set_option maxRecDepth 20000 in
theorem ggX5_holderOf_X5_lays : GoodIn wsX5_holderOf wsX5_lays := goodIn_r _ [7, 8, 9, 2, 10, 11, 12, 13, 14, 15, 16, 17, 18, 19, 20, 21, 22, 23, 24, 25, 26, 27, 28, 29, 30] (by decide +kernel) (by decide +kernel)
set_option maxRecDepth 20000 in
theorem gX5_holderOf_X5_lays : GoodIn wsX5_holderOf (wsV RX5 121 RX5 yX5_lays wsX5_lays) := goodIn_app (goodIn_of _ (by decide +kernel)) ggX5_holderOf_X5_lays
theorem dX5_holderOf_0 : decode cX5_holderOf 0 = .ok (.aload_n 0, 1) := by decide +kernel
theorem dX5_holderOf_1 : decode cX5_holderOf 1 = .ok (.iload_n 1, 1) := by decide +kernel
theorem dX5_holderOf_2 : decode cX5_holderOf 2 = .ok (.invokevirtual 121, 3) := by decide +kernel
theorem dX5_holderOf_5 : decode cX5_holderOf 5 = .ok (.istore_n 2, 1) := by decide +kernel
theorem dX5_holderOf_6 : decode cX5_holderOf 6 = .ok (.iload_n 2, 1) := by decide +kernel
theorem dX5_holderOf_7 : decode cX5_holderOf 7 = .ok (.ifCond .ne 7, 3) := by decide +kernel
theorem dX5_holderOf_10 : decode cX5_holderOf 10 = .ok (.iconst (-1), 1) := by decide +kernel
theorem dX5_holderOf_11 : decode cX5_holderOf 11 = .ok (.goto 21, 3) := by decide +kernel
theorem dX5_holderOf_14 : decode cX5_holderOf 14 = .ok (.aload_n 0, 1) := by decide +kernel
theorem dX5_holderOf_15 : decode cX5_holderOf 15 = .ok (.getfield 42, 3) := by decide +kernel
theorem dX5_holderOf_18 : decode cX5_holderOf 18 = .ok (.bipush 8, 2) := by decide +kernel
theorem dX5_holderOf_20 : decode cX5_holderOf 20 = .ok (.iload_n 1, 1) := by decide +kernel
theorem dX5_holderOf_21 : decode cX5_holderOf 21 = .ok (.imul, 1) := by decide +kernel
theorem dX5_holderOf_22 : decode cX5_holderOf 22 = .ok (.aload_n 0, 1) := by decide +kernel
theorem dX5_holderOf_23 : decode cX5_holderOf 23 = .ok (.getfield 60, 3) := by decide +kernel
theorem dX5_holderOf_26 : decode cX5_holderOf 26 = .ok (.iload_n 2, 1) := by decide +kernel
theorem dX5_holderOf_27 : decode cX5_holderOf 27 = .ok (.iconst 1, 1) := by decide +kernel
theorem dX5_holderOf_28 : decode cX5_holderOf 28 = .ok (.isub, 1) := by decide +kernel
theorem dX5_holderOf_29 : decode cX5_holderOf 29 = .ok (.iaload, 1) := by decide +kernel
theorem dX5_holderOf_30 : decode cX5_holderOf 30 = .ok (.iadd, 1) := by decide +kernel
theorem dX5_holderOf_31 : decode cX5_holderOf 31 = .ok (.iaload, 1) := by decide +kernel
theorem dX5_holderOf_32 : decode cX5_holderOf 32 = .ok (.ireturn, 1) := by decide +kernel
set_option maxRecDepth 20000 in
theorem ggX5_holder_X5_isThing : GoodIn wsX5_holder wsX5_isThing := goodIn_r _ [5, 6, 7, 8, 4, 9, 27, 28, 29, 30, 31, 32, 33, 34, 35, 36, 37, 38, 39, 40, 41, 42, 43, 44, 45, 46, 47] (by decide +kernel) (by decide +kernel)
set_option maxRecDepth 20000 in
theorem gX5_holder_X5_isThing : GoodIn wsX5_holder (wsV RX5 76 RX5 yX5_isThing wsX5_isThing) := goodIn_app (goodIn_of _ (by decide +kernel)) ggX5_holder_X5_isThing
set_option maxRecDepth 20000 in
theorem ggX5_holder_X5_goes : GoodIn wsX5_holder wsX5_goes := goodIn_r _ [13, 14, 27, 28, 29, 30, 31, 32, 33, 34, 35, 36, 37, 38, 39, 40, 41, 42, 43, 44, 45, 46, 47] (by decide +kernel) (by decide +kernel)
set_option maxRecDepth 20000 in
theorem gX5_holder_X5_goes : GoodIn wsX5_holder (wsV RX5 80 RX5 yX5_goes wsX5_goes) := goodIn_app (goodIn_of _ (by decide +kernel)) ggX5_holder_X5_goes
set_option maxRecDepth 20000 in
theorem ggX5_holder_X5_holderOf : GoodIn wsX5_holder wsX5_holderOf := goodIn_r _ [18, 19, 20, 21, 22, 23, 4, 24, 25, 26, 27, 28, 29, 30, 31, 32, 33, 34, 35, 36, 37, 38, 39, 40, 41, 42, 43, 44, 45, 46, 47] (by decide +kernel) (by decide +kernel)
set_option maxRecDepth 20000 in
theorem gX5_holder_X5_holderOf : GoodIn wsX5_holder (wsV RX5 127 RX5 yX5_holderOf wsX5_holderOf) := goodIn_app (goodIn_of _ (by decide +kernel)) ggX5_holder_X5_holderOf
theorem dX5_holder_0 : decode cX5_holder 0 = .ok (.aload_n 0, 1) := by decide +kernel
theorem dX5_holder_1 : decode cX5_holder 1 = .ok (.aload_n 0, 1) := by decide +kernel
theorem dX5_holder_2 : decode cX5_holder 2 = .ok (.iload_n 1, 1) := by decide +kernel
theorem dX5_holder_3 : decode cX5_holder 3 = .ok (.invokevirtual 76, 3) := by decide +kernel
theorem dX5_holder_6 : decode cX5_holder 6 = .ok (.iconst 1, 1) := by decide +kernel
end
section
theorem dX5_holder_7 : decode cX5_holder 7 = .ok (.iconst 1, 1) := by decide +kernel
theorem dX5_holder_8 : decode cX5_holder 8 = .ok (.invokevirtual 80, 3) := by decide +kernel
theorem dX5_holder_11 : decode cX5_holder 11 = .ok (.ifCond .eq 11, 3) := by decide +kernel
theorem dX5_holder_14 : decode cX5_holder 14 = .ok (.aload_n 0, 1) := by decide +kernel
theorem dX5_holder_15 : decode cX5_holder 15 = .ok (.iload_n 1, 1) := by decide +kernel
theorem dX5_holder_16 : decode cX5_holder 16 = .ok (.invokevirtual 127, 3) := by decide +kernel
theorem dX5_holder_19 : decode cX5_holder 19 = .ok (.goto 4, 3) := by decide +kernel
theorem dX5_holder_22 : decode cX5_holder 22 = .ok (.iconst 0, 1) := by decide +kernel
theorem dX5_holder_23 : decode cX5_holder 23 = .ok (.ireturn, 1) := by decide +kernel
set_option maxRecDepth 20000 in
theorem ggX5_ownerOf_X5_lays : GoodIn wsX5_ownerOf wsX5_lays := goodIn_r _ [14, 15, 3, 2, 45, 46, 47, 48, 49, 50, 51, 52, 53, 54, 55, 56, 57, 58, 59, 60, 61, 62, 63, 64, 65] (by decide +kernel) (by decide +kernel)
set_option maxRecDepth 20000 in
theorem gX5_ownerOf_X5_lays : GoodIn wsX5_ownerOf (wsV RX5 121 RX5 yX5_lays wsX5_lays) := goodIn_app (goodIn_of _ (by decide +kernel)) ggX5_ownerOf_X5_lays
set_option maxRecDepth 20000 in
theorem ggX5_ownerOf_X5_loses : GoodIn wsX5_ownerOf wsX5_loses := goodIn_r _ [19, 2, 1, 5, 20, 21, 7, 3, 22, 23, 24, 13, 25, 26, 27, 28, 29, 30, 45, 46, 47, 48, 49, 50, 51, 52, 53, 54, 55, 56, 57, 58, 59, 60, 61, 62, 63, 64, 65] (by decide +kernel) (by decide +kernel)
set_option maxRecDepth 20000 in
theorem gX5_ownerOf_X5_loses : GoodIn wsX5_ownerOf (wsV RX5 124 RX5 yX5_loses wsX5_loses) := goodIn_app (goodIn_of _ (by decide +kernel)) ggX5_ownerOf_X5_loses
set_option maxRecDepth 20000 in
theorem ggX5_ownerOf_X5_findsHeir : GoodIn wsX5_ownerOf wsX5_findsHeir := goodIn_r _ [34, 35, 36, 9, 37, 38, 39, 13, 40, 41, 42, 43, 44, 45, 46, 47, 48, 49, 50, 51, 52, 53, 54, 55, 56, 57, 58, 59, 60, 61, 62, 63, 64, 65] (by decide +kernel) (by decide +kernel)
set_option maxRecDepth 20000 in
theorem gX5_ownerOf_X5_findsHeir : GoodIn wsX5_ownerOf (wsV RX5 111 RX5 yX5_findsHeir wsX5_findsHeir) := goodIn_app (goodIn_of _ (by decide +kernel)) ggX5_ownerOf_X5_findsHeir
theorem dX5_ownerOf_0 : decode cX5_ownerOf 0 = .ok (.aload_n 0, 1) := by decide +kernel
theorem dX5_ownerOf_1 : decode cX5_ownerOf 1 = .ok (.iload_n 1, 1) := by decide +kernel
theorem dX5_ownerOf_2 : decode cX5_ownerOf 2 = .ok (.invokevirtual 121, 3) := by decide +kernel
theorem dX5_ownerOf_5 : decode cX5_ownerOf 5 = .ok (.istore_n 2, 1) := by decide +kernel
theorem dX5_ownerOf_6 : decode cX5_ownerOf 6 = .ok (.iload_n 2, 1) := by decide +kernel
theorem dX5_ownerOf_7 : decode cX5_ownerOf 7 = .ok (.ifCond .ne 7, 3) := by decide +kernel
theorem dX5_ownerOf_10 : decode cX5_ownerOf 10 = .ok (.iconst (-1), 1) := by decide +kernel
theorem dX5_ownerOf_11 : decode cX5_ownerOf 11 = .ok (.goto 19, 3) := by decide +kernel
theorem dX5_ownerOf_14 : decode cX5_ownerOf 14 = .ok (.aload_n 0, 1) := by decide +kernel
theorem dX5_ownerOf_15 : decode cX5_ownerOf 15 = .ok (.getfield 42, 3) := by decide +kernel
theorem dX5_ownerOf_18 : decode cX5_ownerOf 18 = .ok (.bipush 8, 2) := by decide +kernel
theorem dX5_ownerOf_20 : decode cX5_ownerOf 20 = .ok (.iload_n 1, 1) := by decide +kernel
theorem dX5_ownerOf_21 : decode cX5_ownerOf 21 = .ok (.imul, 1) := by decide +kernel
theorem dX5_ownerOf_22 : decode cX5_ownerOf 22 = .ok (.aload_n 0, 1) := by decide +kernel
theorem dX5_ownerOf_23 : decode cX5_ownerOf 23 = .ok (.getfield 60, 3) := by decide +kernel
theorem dX5_ownerOf_26 : decode cX5_ownerOf 26 = .ok (.iconst 0, 1) := by decide +kernel
theorem dX5_ownerOf_27 : decode cX5_ownerOf 27 = .ok (.iaload, 1) := by decide +kernel
theorem dX5_ownerOf_28 : decode cX5_ownerOf 28 = .ok (.iadd, 1) := by decide +kernel
theorem dX5_ownerOf_29 : decode cX5_ownerOf 29 = .ok (.iaload, 1) := by decide +kernel
theorem dX5_ownerOf_30 : decode cX5_ownerOf 30 = .ok (.istore_n 3, 1) := by decide +kernel
theorem dX5_ownerOf_31 : decode cX5_ownerOf 31 = .ok (.iconst 1, 1) := by decide +kernel
theorem dX5_ownerOf_32 : decode cX5_ownerOf 32 = .ok (.istore 4, 2) := by decide +kernel
theorem dX5_ownerOf_34 : decode cX5_ownerOf 34 = .ok (.iload 4, 2) := by decide +kernel
theorem dX5_ownerOf_36 : decode cX5_ownerOf 36 = .ok (.iload_n 2, 1) := by decide +kernel
theorem dX5_ownerOf_37 : decode cX5_ownerOf 37 = .ok (.if_icmp .ge 188, 3) := by decide +kernel
theorem dX5_ownerOf_40 : decode cX5_ownerOf 40 = .ok (.bipush 8, 2) := by decide +kernel
theorem dX5_ownerOf_42 : decode cX5_ownerOf 42 = .ok (.iload_n 1, 1) := by decide +kernel
theorem dX5_ownerOf_43 : decode cX5_ownerOf 43 = .ok (.imul, 1) := by decide +kernel
theorem dX5_ownerOf_44 : decode cX5_ownerOf 44 = .ok (.aload_n 0, 1) := by decide +kernel
theorem dX5_ownerOf_45 : decode cX5_ownerOf 45 = .ok (.getfield 60, 3) := by decide +kernel
theorem dX5_ownerOf_48 : decode cX5_ownerOf 48 = .ok (.iload 4, 2) := by decide +kernel
theorem dX5_ownerOf_50 : decode cX5_ownerOf 50 = .ok (.iaload, 1) := by decide +kernel
theorem dX5_ownerOf_51 : decode cX5_ownerOf 51 = .ok (.iadd, 1) := by decide +kernel
theorem dX5_ownerOf_52 : decode cX5_ownerOf 52 = .ok (.istore 5, 2) := by decide +kernel
theorem dX5_ownerOf_54 : decode cX5_ownerOf 54 = .ok (.iload 4, 2) := by decide +kernel
theorem dX5_ownerOf_56 : decode cX5_ownerOf 56 = .ok (.iconst 1, 1) := by decide +kernel
theorem dX5_ownerOf_57 : decode cX5_ownerOf 57 = .ok (.iadd, 1) := by decide +kernel
theorem dX5_ownerOf_58 : decode cX5_ownerOf 58 = .ok (.iload_n 2, 1) := by decide +kernel
theorem dX5_ownerOf_59 : decode cX5_ownerOf 59 = .ok (.if_icmp .ge 25, 3) := by decide +kernel
theorem dX5_ownerOf_62 : decode cX5_ownerOf 62 = .ok (.aload_n 0, 1) := by decide +kernel
theorem dX5_ownerOf_63 : decode cX5_ownerOf 63 = .ok (.getfield 51, 3) := by decide +kernel
theorem dX5_ownerOf_66 : decode cX5_ownerOf 66 = .ok (.bipush 8, 2) := by decide +kernel
theorem dX5_ownerOf_68 : decode cX5_ownerOf 68 = .ok (.iload_n 1, 1) := by decide +kernel
theorem dX5_ownerOf_69 : decode cX5_ownerOf 69 = .ok (.imul, 1) := by decide +kernel
theorem dX5_ownerOf_70 : decode cX5_ownerOf 70 = .ok (.aload_n 0, 1) := by decide +kernel
theorem dX5_ownerOf_71 : decode cX5_ownerOf 71 = .ok (.getfield 60, 3) := by decide +kernel
theorem dX5_ownerOf_74 : decode cX5_ownerOf 74 = .ok (.iload 4, 2) := by decide +kernel
theorem dX5_ownerOf_76 : decode cX5_ownerOf 76 = .ok (.iconst 1, 1) := by decide +kernel
theorem dX5_ownerOf_77 : decode cX5_ownerOf 77 = .ok (.iadd, 1) := by decide +kernel
theorem dX5_ownerOf_78 : decode cX5_ownerOf 78 = .ok (.iaload, 1) := by decide +kernel
theorem dX5_ownerOf_79 : decode cX5_ownerOf 79 = .ok (.iadd, 1) := by decide +kernel
theorem dX5_ownerOf_80 : decode cX5_ownerOf 80 = .ok (.iaload, 1) := by decide +kernel
theorem dX5_ownerOf_81 : decode cX5_ownerOf 81 = .ok (.goto 7, 3) := by decide +kernel
theorem dX5_ownerOf_84 : decode cX5_ownerOf 84 = .ok (.aload_n 0, 1) := by decide +kernel
theorem dX5_ownerOf_85 : decode cX5_ownerOf 85 = .ok (.getfield 7, 3) := by decide +kernel
theorem dX5_ownerOf_88 : decode cX5_ownerOf 88 = .ok (.istore 6, 2) := by decide +kernel
theorem dX5_ownerOf_90 : decode cX5_ownerOf 90 = .ok (.aload_n 0, 1) := by decide +kernel
theorem dX5_ownerOf_91 : decode cX5_ownerOf 91 = .ok (.getfield 45, 3) := by decide +kernel
theorem dX5_ownerOf_94 : decode cX5_ownerOf 94 = .ok (.iload 5, 2) := by decide +kernel
theorem dX5_ownerOf_96 : decode cX5_ownerOf 96 = .ok (.iaload, 1) := by decide +kernel
theorem dX5_ownerOf_97 : decode cX5_ownerOf 97 = .ok (.ifCond .ne 47, 3) := by decide +kernel
theorem dX5_ownerOf_100 : decode cX5_ownerOf 100 = .ok (.aload_n 0, 1) := by decide +kernel
theorem dX5_ownerOf_101 : decode cX5_ownerOf 101 = .ok (.getfield 30, 3) := by decide +kernel
theorem dX5_ownerOf_104 : decode cX5_ownerOf 104 = .ok (.aload_n 0, 1) := by decide +kernel
theorem dX5_ownerOf_105 : decode cX5_ownerOf 105 = .ok (.getfield 48, 3) := by decide +kernel
theorem dX5_ownerOf_108 : decode cX5_ownerOf 108 = .ok (.iload 5, 2) := by decide +kernel
theorem dX5_ownerOf_110 : decode cX5_ownerOf 110 = .ok (.iaload, 1) := by decide +kernel
theorem dX5_ownerOf_111 : decode cX5_ownerOf 111 = .ok (.iaload, 1) := by decide +kernel
theorem dX5_ownerOf_112 : decode cX5_ownerOf 112 = .ok (.ifCond .le 32, 3) := by decide +kernel
theorem dX5_ownerOf_115 : decode cX5_ownerOf 115 = .ok (.iload 6, 2) := by decide +kernel
theorem dX5_ownerOf_117 : decode cX5_ownerOf 117 = .ok (.aload_n 0, 1) := by decide +kernel
theorem dX5_ownerOf_118 : decode cX5_ownerOf 118 = .ok (.getfield 51, 3) := by decide +kernel
theorem dX5_ownerOf_121 : decode cX5_ownerOf 121 = .ok (.iload 5, 2) := by decide +kernel
theorem dX5_ownerOf_123 : decode cX5_ownerOf 123 = .ok (.iaload, 1) := by decide +kernel
theorem dX5_ownerOf_124 : decode cX5_ownerOf 124 = .ok (.isub, 1) := by decide +kernel
theorem dX5_ownerOf_125 : decode cX5_ownerOf 125 = .ok (.aload_n 0, 1) := by decide +kernel
theorem dX5_ownerOf_126 : decode cX5_ownerOf 126 = .ok (.getfield 30, 3) := by decide +kernel
theorem dX5_ownerOf_129 : decode cX5_ownerOf 129 = .ok (.aload_n 0, 1) := by decide +kernel
theorem dX5_ownerOf_130 : decode cX5_ownerOf 130 = .ok (.getfield 48, 3) := by decide +kernel
theorem dX5_ownerOf_133 : decode cX5_ownerOf 133 = .ok (.iload 5, 2) := by decide +kernel
theorem dX5_ownerOf_135 : decode cX5_ownerOf 135 = .ok (.iaload, 1) := by decide +kernel
theorem dX5_ownerOf_136 : decode cX5_ownerOf 136 = .ok (.iaload, 1) := by decide +kernel
theorem dX5_ownerOf_137 : decode cX5_ownerOf 137 = .ok (.if_icmp .lt 7, 3) := by decide +kernel
theorem dX5_ownerOf_140 : decode cX5_ownerOf 140 = .ok (.iconst 1, 1) := by decide +kernel
theorem dX5_ownerOf_141 : decode cX5_ownerOf 141 = .ok (.goto 4, 3) := by decide +kernel
theorem dX5_ownerOf_144 : decode cX5_ownerOf 144 = .ok (.iconst 0, 1) := by decide +kernel
theorem dX5_ownerOf_145 : decode cX5_ownerOf 145 = .ok (.istore 7, 2) := by decide +kernel
theorem dX5_ownerOf_147 : decode cX5_ownerOf 147 = .ok (.iload_n 3, 1) := by decide +kernel
theorem dX5_ownerOf_148 : decode cX5_ownerOf 148 = .ok (.aload_n 0, 1) := by decide +kernel
theorem dX5_ownerOf_149 : decode cX5_ownerOf 149 = .ok (.getfield 42, 3) := by decide +kernel
theorem dX5_ownerOf_152 : decode cX5_ownerOf 152 = .ok (.bipush 8, 2) := by decide +kernel
theorem dX5_ownerOf_154 : decode cX5_ownerOf 154 = .ok (.iload_n 1, 1) := by decide +kernel
theorem dX5_ownerOf_155 : decode cX5_ownerOf 155 = .ok (.imul, 1) := by decide +kernel
theorem dX5_ownerOf_156 : decode cX5_ownerOf 156 = .ok (.aload_n 0, 1) := by decide +kernel
theorem dX5_ownerOf_157 : decode cX5_ownerOf 157 = .ok (.getfield 60, 3) := by decide +kernel
theorem dX5_ownerOf_160 : decode cX5_ownerOf 160 = .ok (.iload 4, 2) := by decide +kernel
theorem dX5_ownerOf_162 : decode cX5_ownerOf 162 = .ok (.iconst 1, 1) := by decide +kernel
theorem dX5_ownerOf_163 : decode cX5_ownerOf 163 = .ok (.isub, 1) := by decide +kernel
theorem dX5_ownerOf_164 : decode cX5_ownerOf 164 = .ok (.iaload, 1) := by decide +kernel
theorem dX5_ownerOf_165 : decode cX5_ownerOf 165 = .ok (.iadd, 1) := by decide +kernel
theorem dX5_ownerOf_166 : decode cX5_ownerOf 166 = .ok (.iaload, 1) := by decide +kernel
theorem dX5_ownerOf_167 : decode cX5_ownerOf 167 = .ok (.if_icmp .eq 8, 3) := by decide +kernel
theorem dX5_ownerOf_170 : decode cX5_ownerOf 170 = .ok (.iload 7, 2) := by decide +kernel
theorem dX5_ownerOf_172 : decode cX5_ownerOf 172 = .ok (.ifCond .eq 7, 3) := by decide +kernel
theorem dX5_ownerOf_175 : decode cX5_ownerOf 175 = .ok (.iconst 1, 1) := by decide +kernel
theorem dX5_ownerOf_176 : decode cX5_ownerOf 176 = .ok (.goto 4, 3) := by decide +kernel
theorem dX5_ownerOf_179 : decode cX5_ownerOf 179 = .ok (.iconst 0, 1) := by decide +kernel
theorem dX5_ownerOf_180 : decode cX5_ownerOf 180 = .ok (.istore 8, 2) := by decide +kernel
theorem dX5_ownerOf_182 : decode cX5_ownerOf 182 = .ok (.aload_n 0, 1) := by decide +kernel
theorem dX5_ownerOf_183 : decode cX5_ownerOf 183 = .ok (.getfield 57, 3) := by decide +kernel
theorem dX5_ownerOf_186 : decode cX5_ownerOf 186 = .ok (.iload 5, 2) := by decide +kernel
theorem dX5_ownerOf_188 : decode cX5_ownerOf 188 = .ok (.baload, 1) := by decide +kernel
theorem dX5_ownerOf_189 : decode cX5_ownerOf 189 = .ok (.ifCond .ne 18, 3) := by decide +kernel
theorem dX5_ownerOf_192 : decode cX5_ownerOf 192 = .ok (.aload_n 0, 1) := by decide +kernel
theorem dX5_ownerOf_193 : decode cX5_ownerOf 193 = .ok (.iload_n 1, 1) := by decide +kernel
theorem dX5_ownerOf_194 : decode cX5_ownerOf 194 = .ok (.iload 4, 2) := by decide +kernel
theorem dX5_ownerOf_196 : decode cX5_ownerOf 196 = .ok (.invokevirtual 124, 3) := by decide +kernel
theorem dX5_ownerOf_199 : decode cX5_ownerOf 199 = .ok (.ifCond .ne 18, 3) := by decide +kernel
theorem dX5_ownerOf_202 : decode cX5_ownerOf 202 = .ok (.iload 8, 2) := by decide +kernel
theorem dX5_ownerOf_204 : decode cX5_ownerOf 204 = .ok (.ifCond .eq 13, 3) := by decide +kernel
theorem dX5_ownerOf_207 : decode cX5_ownerOf 207 = .ok (.aload_n 0, 1) := by decide +kernel
theorem dX5_ownerOf_208 : decode cX5_ownerOf 208 = .ok (.getfield 42, 3) := by decide +kernel
theorem dX5_ownerOf_211 : decode cX5_ownerOf 211 = .ok (.iload 5, 2) := by decide +kernel
theorem dX5_ownerOf_213 : decode cX5_ownerOf 213 = .ok (.iaload, 1) := by decide +kernel
theorem dX5_ownerOf_214 : decode cX5_ownerOf 214 = .ok (.goto 4, 3) := by decide +kernel
theorem dX5_ownerOf_217 : decode cX5_ownerOf 217 = .ok (.iload_n 3, 1) := by decide +kernel
theorem dX5_ownerOf_218 : decode cX5_ownerOf 218 = .ok (.istore_n 3, 1) := by decide +kernel
theorem dX5_ownerOf_219 : decode cX5_ownerOf 219 = .ok (.iinc 4 1, 3) := by decide +kernel
theorem dX5_ownerOf_222 : decode cX5_ownerOf 222 = .ok (.goto (-188), 3) := by decide +kernel
theorem dX5_ownerOf_225 : decode cX5_ownerOf 225 = .ok (.iload_n 3, 1) := by decide +kernel
theorem dX5_ownerOf_226 : decode cX5_ownerOf 226 = .ok (.iconst (-1), 1) := by decide +kernel
theorem dX5_ownerOf_227 : decode cX5_ownerOf 227 = .ok (.if_icmp .eq 12, 3) := by decide +kernel
theorem dX5_ownerOf_230 : decode cX5_ownerOf 230 = .ok (.aload_n 0, 1) := by decide +kernel
theorem dX5_ownerOf_231 : decode cX5_ownerOf 231 = .ok (.getfield 17, 3) := by decide +kernel
theorem dX5_ownerOf_234 : decode cX5_ownerOf 234 = .ok (.iload_n 3, 1) := by decide +kernel
theorem dX5_ownerOf_235 : decode cX5_ownerOf 235 = .ok (.baload, 1) := by decide +kernel
theorem dX5_ownerOf_236 : decode cX5_ownerOf 236 = .ok (.ifCond .ne 7, 3) := by decide +kernel
theorem dX5_ownerOf_239 : decode cX5_ownerOf 239 = .ok (.iload_n 3, 1) := by decide +kernel
theorem dX5_ownerOf_240 : decode cX5_ownerOf 240 = .ok (.goto 8, 3) := by decide +kernel
theorem dX5_ownerOf_243 : decode cX5_ownerOf 243 = .ok (.aload_n 0, 1) := by decide +kernel
theorem dX5_ownerOf_244 : decode cX5_ownerOf 244 = .ok (.iload_n 3, 1) := by decide +kernel
theorem dX5_ownerOf_245 : decode cX5_ownerOf 245 = .ok (.invokevirtual 111, 3) := by decide +kernel
theorem dX5_ownerOf_248 : decode cX5_ownerOf 248 = .ok (.ireturn, 1) := by decide +kernel
set_option maxRecDepth 20000 in
theorem ggX5_owner_X5_isThing : GoodIn wsX5_owner wsX5_isThing := goodIn_r _ [5, 6, 7, 8, 4, 9, 59, 60, 61, 62, 63, 64, 65, 66, 67, 68, 69, 70, 71, 72, 73, 74, 75, 76, 77, 78, 79] (by decide +kernel) (by decide +kernel)
set_option maxRecDepth 20000 in
theorem gX5_owner_X5_isThing : GoodIn wsX5_owner (wsV RX5 76 RX5 yX5_isThing wsX5_isThing) := goodIn_app (goodIn_of _ (by decide +kernel)) ggX5_owner_X5_isThing
set_option maxRecDepth 20000 in
theorem ggX5_owner_X5_goes : GoodIn wsX5_owner wsX5_goes := goodIn_r _ [13, 14, 59, 60, 61, 62, 63, 64, 65, 66, 67, 68, 69, 70, 71, 72, 73, 74, 75, 76, 77, 78, 79] (by decide +kernel) (by decide +kernel)
set_option maxRecDepth 20000 in
theorem gX5_owner_X5_goes : GoodIn wsX5_owner (wsV RX5 80 RX5 yX5_goes wsX5_goes) := goodIn_app (goodIn_of _ (by decide +kernel)) ggX5_owner_X5_goes
set_option maxRecDepth 20000 in
theorem ggX5_owner_X5_ownerOf : GoodIn wsX5_owner wsX5_ownerOf := goodIn_r _ [18, 19, 20, 21, 22, 23, 24, 25, 26, 27, 28, 29, 30, 4, 31, 32, 33, 34, 35, 36, 37, 38, 39, 40, 41, 42, 43, 44, 7, 8, 9, 45, 46, 47, 48, 49, 50, 51, 52, 53, 54, 55, 56, 57, 58, 59, 60, 61, 62, 63, 64, 65, 66, 67, 68, 69, 70, 71, 72, 73, 74, 75, 76, 77, 78, 79] (by decide +kernel) (by decide +kernel)
set_option maxRecDepth 20000 in
theorem gX5_owner_X5_ownerOf : GoodIn wsX5_owner (wsV RX5 130 RX5 yX5_ownerOf wsX5_ownerOf) := goodIn_app (goodIn_of _ (by decide +kernel)) ggX5_owner_X5_ownerOf
theorem dX5_owner_0 : decode cX5_owner 0 = .ok (.aload_n 0, 1) := by decide +kernel
theorem dX5_owner_1 : decode cX5_owner 1 = .ok (.aload_n 0, 1) := by decide +kernel
theorem dX5_owner_2 : decode cX5_owner 2 = .ok (.iload_n 1, 1) := by decide +kernel
theorem dX5_owner_3 : decode cX5_owner 3 = .ok (.invokevirtual 76, 3) := by decide +kernel
theorem dX5_owner_6 : decode cX5_owner 6 = .ok (.iconst 1, 1) := by decide +kernel
theorem dX5_owner_7 : decode cX5_owner 7 = .ok (.iconst 1, 1) := by decide +kernel
theorem dX5_owner_8 : decode cX5_owner 8 = .ok (.invokevirtual 80, 3) := by decide +kernel
theorem dX5_owner_11 : decode cX5_owner 11 = .ok (.ifCond .eq 11, 3) := by decide +kernel
theorem dX5_owner_14 : decode cX5_owner 14 = .ok (.aload_n 0, 1) := by decide +kernel
theorem dX5_owner_15 : decode cX5_owner 15 = .ok (.iload_n 1, 1) := by decide +kernel
theorem dX5_owner_16 : decode cX5_owner 16 = .ok (.invokevirtual 130, 3) := by decide +kernel
theorem dX5_owner_19 : decode cX5_owner 19 = .ok (.goto 4, 3) := by decide +kernel
theorem dX5_owner_22 : decode cX5_owner 22 = .ok (.iconst 0, 1) := by decide +kernel
theorem dX5_owner_23 : decode cX5_owner 23 = .ok (.ireturn, 1) := by decide +kernel
set_option maxRecDepth 20000 in
theorem ggX5_ownerAnew_X5_owner : GoodIn wsX5_ownerAnew wsX5_owner := goodIn_r _ [5, 6, 7, 8, 4, 9, 10, 11, 12, 13, 14, 15, 16, 17, 18, 19, 20, 21, 22, 23, 24, 25, 26, 27, 28, 29, 30, 31, 32, 33, 34, 35, 36, 37, 38, 39, 40, 41, 42, 43, 44, 45, 46, 47, 48, 49, 50, 51, 52, 53, 54, 55, 56, 57, 58, 59, 60, 61, 62, 63, 64, 65, 66, 67, 68, 69, 70, 71, 72, 73, 74, 75, 76, 77, 78, 79, 80, 81, 82, 83] (by decide +kernel) (by decide +kernel)
set_option maxRecDepth 20000 in
theorem gX5_ownerAnew_X5_owner : GoodIn wsX5_ownerAnew (wsV RX5 133 RX5 yX5_owner wsX5_owner) := goodIn_app (goodIn_of _ (by decide +kernel)) ggX5_ownerAnew_X5_owner
theorem dX5_ownerAnew_0 : decode cX5_ownerAnew 0 = .ok (.aload_n 0, 1) := by decide +kernel
theorem dX5_ownerAnew_1 : decode cX5_ownerAnew 1 = .ok (.iload_n 1, 1) := by decide +kernel
theorem dX5_ownerAnew_2 : decode cX5_ownerAnew 2 = .ok (.invokevirtual 133, 3) := by decide +kernel
theorem dX5_ownerAnew_5 : decode cX5_ownerAnew 5 = .ok (.ireturn, 1) := by decide +kernel
set_option maxRecDepth 20000 in
theorem ggX5_asks_X5_isPerson : GoodIn wsX5_asks wsX5_isPerson := goodIn_r _ [6, 7, 8, 9, 5, 10, 64, 65, 66, 67, 68, 69, 70, 71, 72, 73, 74, 75, 76, 77, 78, 79, 80, 81, 82, 83, 84] (by decide +kernel) (by decide +kernel)
set_option maxRecDepth 20000 in
theorem gX5_asks_X5_isPerson : GoodIn wsX5_asks (wsV RX5 84 RX5 yX5_isPerson wsX5_isPerson) := goodIn_app (goodIn_of _ (by decide +kernel)) ggX5_asks_X5_isPerson
set_option maxRecDepth 20000 in
theorem ggX5_asks_X5_goes : GoodIn wsX5_asks wsX5_goes := goodIn_r _ [14, 15, 64, 65, 66, 67, 68, 69, 70, 71, 72, 73, 74, 75, 76, 77, 78, 79, 80, 81, 82, 83, 84] (by decide +kernel) (by decide +kernel)
set_option maxRecDepth 20000 in
theorem gX5_asks_X5_goes : GoodIn wsX5_asks (wsV RX5 80 RX5 yX5_goes wsX5_goes) := goodIn_app (goodIn_of _ (by decide +kernel)) ggX5_asks_X5_goes
set_option maxRecDepth 20000 in
theorem ggX5_asks_X5_ownerOf : GoodIn wsX5_asks wsX5_ownerOf := goodIn_r _ [19, 20, 21, 22, 23, 24, 25, 26, 27, 28, 29, 30, 31, 5, 32, 33, 34, 35, 36, 37, 38, 39, 40, 41, 42, 43, 44, 45, 8, 9, 10, 46, 47, 48, 49, 50, 51, 52, 53, 54, 55, 56, 57, 58, 59, 64, 65, 66, 67, 68, 69, 70, 71, 72, 73, 74, 75, 76, 77, 78, 79, 80, 81, 82, 83, 84] (by decide +kernel) (by decide +kernel)
set_option maxRecDepth 20000 in
theorem gX5_asks_X5_ownerOf : GoodIn wsX5_asks (wsV RX5 130 RX5 yX5_ownerOf wsX5_ownerOf) := goodIn_app (goodIn_of _ (by decide +kernel)) ggX5_asks_X5_ownerOf
set_option maxRecDepth 20000 in
theorem ggX5_asks_X5_holderOf : GoodIn wsX5_asks wsX5_holderOf := goodIn_r _ [63, 20, 21, 29, 30, 31, 5, 32, 33, 22, 64, 65, 66, 67, 68, 69, 70, 71, 72, 73, 74, 75, 76, 77, 78, 79, 80, 81, 82, 83, 84] (by decide +kernel) (by decide +kernel)
set_option maxRecDepth 20000 in
theorem gX5_asks_X5_holderOf : GoodIn wsX5_asks (wsV RX5 127 RX5 yX5_holderOf wsX5_holderOf) := goodIn_app (goodIn_of _ (by decide +kernel)) ggX5_asks_X5_holderOf
theorem dX5_asks_0 : decode cX5_asks 0 = .ok (.aload_n 0, 1) := by decide +kernel
theorem dX5_asks_1 : decode cX5_asks 1 = .ok (.aload_n 0, 1) := by decide +kernel
theorem dX5_asks_2 : decode cX5_asks 2 = .ok (.iload_n 1, 1) := by decide +kernel
theorem dX5_asks_3 : decode cX5_asks 3 = .ok (.invokevirtual 84, 3) := by decide +kernel
theorem dX5_asks_6 : decode cX5_asks 6 = .ok (.iconst 1, 1) := by decide +kernel
theorem dX5_asks_7 : decode cX5_asks 7 = .ok (.iconst 1, 1) := by decide +kernel
theorem dX5_asks_8 : decode cX5_asks 8 = .ok (.invokevirtual 80, 3) := by decide +kernel
theorem dX5_asks_11 : decode cX5_asks 11 = .ok (.ifCond .ne 5, 3) := by decide +kernel
theorem dX5_asks_14 : decode cX5_asks 14 = .ok (.iconst 0, 1) := by decide +kernel
theorem dX5_asks_15 : decode cX5_asks 15 = .ok (.ireturn, 1) := by decide +kernel
theorem dX5_asks_16 : decode cX5_asks 16 = .ok (.iconst 0, 1) := by decide +kernel
theorem dX5_asks_17 : decode cX5_asks 17 = .ok (.istore_n 2, 1) := by decide +kernel
theorem dX5_asks_18 : decode cX5_asks 18 = .ok (.iconst 0, 1) := by decide +kernel
theorem dX5_asks_19 : decode cX5_asks 19 = .ok (.istore_n 3, 1) := by decide +kernel
theorem dX5_asks_20 : decode cX5_asks 20 = .ok (.iload_n 3, 1) := by decide +kernel
theorem dX5_asks_21 : decode cX5_asks 21 = .ok (.aload_n 0, 1) := by decide +kernel
theorem dX5_asks_22 : decode cX5_asks 22 = .ok (.getfield 73, 3) := by decide +kernel
theorem dX5_asks_25 : decode cX5_asks 25 = .ok (.if_icmp .ge 35, 3) := by decide +kernel
theorem dX5_asks_28 : decode cX5_asks 28 = .ok (.iload_n 2, 1) := by decide +kernel
theorem dX5_asks_29 : decode cX5_asks 29 = .ok (.aload_n 0, 1) := by decide +kernel
theorem dX5_asks_30 : decode cX5_asks 30 = .ok (.iload_n 3, 1) := by decide +kernel
theorem dX5_asks_31 : decode cX5_asks 31 = .ok (.invokevirtual 130, 3) := by decide +kernel
theorem dX5_asks_34 : decode cX5_asks 34 = .ok (.iload_n 1, 1) := by decide +kernel
theorem dX5_asks_35 : decode cX5_asks 35 = .ok (.if_icmp .ne 16, 3) := by decide +kernel
theorem dX5_asks_38 : decode cX5_asks 38 = .ok (.aload_n 0, 1) := by decide +kernel
theorem dX5_asks_39 : decode cX5_asks 39 = .ok (.iload_n 3, 1) := by decide +kernel
theorem dX5_asks_40 : decode cX5_asks 40 = .ok (.invokevirtual 127, 3) := by decide +kernel
theorem dX5_asks_43 : decode cX5_asks 43 = .ok (.iload_n 1, 1) := by decide +kernel
theorem dX5_asks_44 : decode cX5_asks 44 = .ok (.if_icmp .eq 7, 3) := by decide +kernel
theorem dX5_asks_47 : decode cX5_asks 47 = .ok (.iconst 1, 1) := by decide +kernel
theorem dX5_asks_48 : decode cX5_asks 48 = .ok (.goto 4, 3) := by decide +kernel
theorem dX5_asks_51 : decode cX5_asks 51 = .ok (.iconst 0, 1) := by decide +kernel
theorem dX5_asks_52 : decode cX5_asks 52 = .ok (.iadd, 1) := by decide +kernel
theorem dX5_asks_53 : decode cX5_asks 53 = .ok (.istore_n 2, 1) := by decide +kernel
theorem dX5_asks_54 : decode cX5_asks 54 = .ok (.iinc 3 1, 3) := by decide +kernel
theorem dX5_asks_57 : decode cX5_asks 57 = .ok (.goto (-37), 3) := by decide +kernel
theorem dX5_asks_60 : decode cX5_asks 60 = .ok (.iload_n 2, 1) := by decide +kernel
theorem dX5_asks_61 : decode cX5_asks 61 = .ok (.ireturn, 1) := by decide +kernel
theorem dJ6_bitCount_0f7a4_0 : decode cJ6_bitCount_0f7a4 0 = .ok (.iload_n 0, 1) := by decide +kernel
theorem dJ6_bitCount_0f7a4_1 : decode cJ6_bitCount_0f7a4 1 = .ok (.iload_n 0, 1) := by decide +kernel
theorem dJ6_bitCount_0f7a4_2 : decode cJ6_bitCount_0f7a4 2 = .ok (.iconst 1, 1) := by decide +kernel
theorem dJ6_bitCount_0f7a4_3 : decode cJ6_bitCount_0f7a4 3 = .ok (.iushr, 1) := by decide +kernel
theorem dJ6_bitCount_0f7a4_4 : decode cJ6_bitCount_0f7a4 4 = .ok (.ldc_w 265, 3) := by decide +kernel
theorem dJ6_bitCount_0f7a4_7 : decode cJ6_bitCount_0f7a4 7 = .ok (.iand, 1) := by decide +kernel
theorem dJ6_bitCount_0f7a4_8 : decode cJ6_bitCount_0f7a4 8 = .ok (.isub, 1) := by decide +kernel
theorem dJ6_bitCount_0f7a4_9 : decode cJ6_bitCount_0f7a4 9 = .ok (.istore_n 0, 1) := by decide +kernel
theorem dJ6_bitCount_0f7a4_10 : decode cJ6_bitCount_0f7a4 10 = .ok (.iload_n 0, 1) := by decide +kernel
theorem dJ6_bitCount_0f7a4_11 : decode cJ6_bitCount_0f7a4 11 = .ok (.ldc_w 266, 3) := by decide +kernel
theorem dJ6_bitCount_0f7a4_14 : decode cJ6_bitCount_0f7a4 14 = .ok (.iand, 1) := by decide +kernel
theorem dJ6_bitCount_0f7a4_15 : decode cJ6_bitCount_0f7a4 15 = .ok (.iload_n 0, 1) := by decide +kernel
theorem dJ6_bitCount_0f7a4_16 : decode cJ6_bitCount_0f7a4 16 = .ok (.iconst 2, 1) := by decide +kernel
theorem dJ6_bitCount_0f7a4_17 : decode cJ6_bitCount_0f7a4 17 = .ok (.iushr, 1) := by decide +kernel
theorem dJ6_bitCount_0f7a4_18 : decode cJ6_bitCount_0f7a4 18 = .ok (.ldc_w 266, 3) := by decide +kernel
theorem dJ6_bitCount_0f7a4_21 : decode cJ6_bitCount_0f7a4 21 = .ok (.iand, 1) := by decide +kernel
theorem dJ6_bitCount_0f7a4_22 : decode cJ6_bitCount_0f7a4 22 = .ok (.iadd, 1) := by decide +kernel
theorem dJ6_bitCount_0f7a4_23 : decode cJ6_bitCount_0f7a4 23 = .ok (.istore_n 0, 1) := by decide +kernel
theorem dJ6_bitCount_0f7a4_24 : decode cJ6_bitCount_0f7a4 24 = .ok (.iload_n 0, 1) := by decide +kernel
theorem dJ6_bitCount_0f7a4_25 : decode cJ6_bitCount_0f7a4 25 = .ok (.iload_n 0, 1) := by decide +kernel
theorem dJ6_bitCount_0f7a4_26 : decode cJ6_bitCount_0f7a4 26 = .ok (.iconst 4, 1) := by decide +kernel
theorem dJ6_bitCount_0f7a4_27 : decode cJ6_bitCount_0f7a4 27 = .ok (.iushr, 1) := by decide +kernel
theorem dJ6_bitCount_0f7a4_28 : decode cJ6_bitCount_0f7a4 28 = .ok (.iadd, 1) := by decide +kernel
theorem dJ6_bitCount_0f7a4_29 : decode cJ6_bitCount_0f7a4 29 = .ok (.ldc_w 267, 3) := by decide +kernel
theorem dJ6_bitCount_0f7a4_32 : decode cJ6_bitCount_0f7a4 32 = .ok (.iand, 1) := by decide +kernel
theorem dJ6_bitCount_0f7a4_33 : decode cJ6_bitCount_0f7a4 33 = .ok (.istore_n 0, 1) := by decide +kernel
theorem dJ6_bitCount_0f7a4_34 : decode cJ6_bitCount_0f7a4 34 = .ok (.iload_n 0, 1) := by decide +kernel
theorem dJ6_bitCount_0f7a4_35 : decode cJ6_bitCount_0f7a4 35 = .ok (.iload_n 0, 1) := by decide +kernel
theorem dJ6_bitCount_0f7a4_36 : decode cJ6_bitCount_0f7a4 36 = .ok (.bipush 8, 2) := by decide +kernel
theorem dJ6_bitCount_0f7a4_38 : decode cJ6_bitCount_0f7a4 38 = .ok (.iushr, 1) := by decide +kernel
theorem dJ6_bitCount_0f7a4_39 : decode cJ6_bitCount_0f7a4 39 = .ok (.iadd, 1) := by decide +kernel
theorem dJ6_bitCount_0f7a4_40 : decode cJ6_bitCount_0f7a4 40 = .ok (.istore_n 0, 1) := by decide +kernel
theorem dJ6_bitCount_0f7a4_41 : decode cJ6_bitCount_0f7a4 41 = .ok (.iload_n 0, 1) := by decide +kernel
theorem dJ6_bitCount_0f7a4_42 : decode cJ6_bitCount_0f7a4 42 = .ok (.iload_n 0, 1) := by decide +kernel
theorem dJ6_bitCount_0f7a4_43 : decode cJ6_bitCount_0f7a4 43 = .ok (.bipush 16, 2) := by decide +kernel
theorem dJ6_bitCount_0f7a4_45 : decode cJ6_bitCount_0f7a4 45 = .ok (.iushr, 1) := by decide +kernel
theorem dJ6_bitCount_0f7a4_46 : decode cJ6_bitCount_0f7a4 46 = .ok (.iadd, 1) := by decide +kernel
theorem dJ6_bitCount_0f7a4_47 : decode cJ6_bitCount_0f7a4 47 = .ok (.istore_n 0, 1) := by decide +kernel
theorem dJ6_bitCount_0f7a4_48 : decode cJ6_bitCount_0f7a4 48 = .ok (.iload_n 0, 1) := by decide +kernel
theorem dJ6_bitCount_0f7a4_49 : decode cJ6_bitCount_0f7a4 49 = .ok (.bipush 63, 2) := by decide +kernel
theorem dJ6_bitCount_0f7a4_51 : decode cJ6_bitCount_0f7a4 51 = .ok (.iand, 1) := by decide +kernel
theorem dJ6_bitCount_0f7a4_52 : decode cJ6_bitCount_0f7a4 52 = .ok (.ireturn, 1) := by decide +kernel
theorem dJ9_abs_0f7a4_0 : decode cJ9_abs_0f7a4 0 = .ok (.iload_n 0, 1) := by decide +kernel
theorem dJ9_abs_0f7a4_1 : decode cJ9_abs_0f7a4 1 = .ok (.ifCond .ge 8, 3) := by decide +kernel
theorem dJ9_abs_0f7a4_4 : decode cJ9_abs_0f7a4 4 = .ok (.iload_n 0, 1) := by decide +kernel
theorem dJ9_abs_0f7a4_5 : decode cJ9_abs_0f7a4 5 = .ok (.ineg, 1) := by decide +kernel
theorem dJ9_abs_0f7a4_6 : decode cJ9_abs_0f7a4 6 = .ok (.goto 4, 3) := by decide +kernel
theorem dJ9_abs_0f7a4_9 : decode cJ9_abs_0f7a4 9 = .ok (.iload_n 0, 1) := by decide +kernel
theorem dJ9_abs_0f7a4_10 : decode cJ9_abs_0f7a4 10 = .ok (.ireturn, 1) := by decide +kernel
set_option maxRecDepth 20000 in
theorem ggL_person_X4_person : GoodIn wsL_person wsX4_person := goodIn_ca (goodIn_ca (goodIn_r _ [7, 8, 9, 10, 11, 12, 13, 14, 15, 16, 6, 17, 18, 19, 20, 21, 22, 23, 24, 25, 26, 27, 28, 29, 30, 31, 32, 33, 34, 35, 36, 37, 38, 39, 40, 41, 42, 43] (by decide +kernel) (by decide +kernel)) (goodIn_sub (fun _ h => List.mem_cons_of_mem _ (List.mem_append_left _ (List.mem_append_right _ h))) (by decide +kernel))) (goodIn_sub (fun _ h => List.mem_cons_of_mem _ (List.mem_append_right _ h)) (by decide +kernel))
set_option maxRecDepth 20000 in
theorem gL_person_X4_person : GoodIn wsL_person (wsV RL 7 RX4 yX4_person wsX4_person) := goodIn_app (goodIn_of _ (by decide +kernel)) ggL_person_X4_person
theorem dL_person_0 : decode cL_person 0 = .ok (.aload_n 2, 1) := by decide +kernel
theorem dL_person_1 : decode cL_person 1 = .ok (.iconst 0, 1) := by decide +kernel
theorem dL_person_2 : decode cL_person 2 = .ok (.aload_n 0, 1) := by decide +kernel
theorem dL_person_3 : decode cL_person 3 = .ok (.iload_n 1, 1) := by decide +kernel
theorem dL_person_4 : decode cL_person 4 = .ok (.invokevirtual 7, 3) := by decide +kernel
theorem dL_person_7 : decode cL_person 7 = .ok (.i2l, 1) := by decide +kernel
theorem dL_person_8 : decode cL_person 8 = .ok (.lastore, 1) := by decide +kernel
theorem dL_person_9 : decode cL_person 9 = .ok (.goto 9, 3) := by decide +kernel
theorem dL_person_12 : decode cL_person 12 = .ok (.astore_n 3, 1) := by decide +kernel
theorem dL_person_13 : decode cL_person 13 = .ok (.iconst 1, 1) := by decide +kernel
theorem dL_person_14 : decode cL_person 14 = .ok (.ireturn, 1) := by decide +kernel
theorem dL_person_15 : decode cL_person 15 = .ok (.astore_n 3, 1) := by decide +kernel
theorem dL_person_16 : decode cL_person 16 = .ok (.iconst 2, 1) := by decide +kernel
theorem dL_person_17 : decode cL_person 17 = .ok (.ireturn, 1) := by decide +kernel
theorem dL_person_18 : decode cL_person 18 = .ok (.iconst 0, 1) := by decide +kernel
theorem dL_person_19 : decode cL_person 19 = .ok (.ireturn, 1) := by decide +kernel
set_option maxRecDepth 20000 in
theorem ggL_die_X4_die : GoodIn wsL_die wsX4_die := goodIn_ca (goodIn_ca (goodIn_r _ [7, 8, 9, 10, 11, 12, 13, 6, 14, 15, 16, 17, 18, 19, 20, 21, 22, 23, 24, 25, 26, 27, 28, 29, 30, 31] (by decide +kernel) (by decide +kernel)) (goodIn_sub (fun _ h => List.mem_cons_of_mem _ (List.mem_append_left _ (List.mem_append_right _ h))) (by decide +kernel))) (goodIn_sub (fun _ h => List.mem_cons_of_mem _ (List.mem_append_right _ h)) (by decide +kernel))
set_option maxRecDepth 20000 in
theorem gL_die_X4_die : GoodIn wsL_die (wsV RL 17 RX4 yX4_die wsX4_die) := goodIn_app (goodIn_of _ (by decide +kernel)) ggL_die_X4_die
theorem dL_die_0 : decode cL_die 0 = .ok (.aload_n 0, 1) := by decide +kernel
theorem dL_die_1 : decode cL_die 1 = .ok (.iload_n 1, 1) := by decide +kernel
theorem dL_die_2 : decode cL_die 2 = .ok (.invokevirtual 17, 3) := by decide +kernel
theorem dL_die_5 : decode cL_die 5 = .ok (.goto 9, 3) := by decide +kernel
theorem dL_die_8 : decode cL_die 8 = .ok (.astore_n 2, 1) := by decide +kernel
theorem dL_die_9 : decode cL_die 9 = .ok (.iconst 1, 1) := by decide +kernel
theorem dL_die_10 : decode cL_die 10 = .ok (.ireturn, 1) := by decide +kernel
theorem dL_die_11 : decode cL_die 11 = .ok (.astore_n 2, 1) := by decide +kernel
theorem dL_die_12 : decode cL_die 12 = .ok (.iconst 2, 1) := by decide +kernel
theorem dL_die_13 : decode cL_die 13 = .ok (.ireturn, 1) := by decide +kernel
theorem dL_die_14 : decode cL_die 14 = .ok (.iconst 0, 1) := by decide +kernel
theorem dL_die_15 : decode cL_die 15 = .ok (.ireturn, 1) := by decide +kernel
set_option maxRecDepth 20000 in
theorem ggL_heir_X4_heir : GoodIn wsL_heir wsX4_heir := goodIn_ca (goodIn_ca (goodIn_ca (goodIn_r _ [8, 9, 10, 11, 12, 13, 14, 15, 16, 17, 7, 18, 19, 20, 21, 22, 23, 24, 25, 26, 27, 28, 29, 30, 31, 32, 33, 34, 35, 36, 37, 38, 39, 40, 41] (by decide +kernel) (by decide +kernel)) (goodIn_sub (fun _ h => List.mem_cons_of_mem _ (List.mem_append_left _ (List.mem_append_left _ (List.mem_append_right _ h)))) (by decide +kernel))) (goodIn_sub (fun _ h => List.mem_cons_of_mem _ (List.mem_append_left _ (List.mem_append_right _ h))) (by decide +kernel))) (goodIn_sub (fun _ h => List.mem_cons_of_mem _ (List.mem_append_right _ h)) (by decide +kernel))
set_option maxRecDepth 20000 in
theorem gL_heir_X4_heir : GoodIn wsL_heir (wsV RL 21 RX4 yX4_heir wsX4_heir) := goodIn_app (goodIn_of _ (by decide +kernel)) ggL_heir_X4_heir
theorem dL_heir_0 : decode cL_heir 0 = .ok (.aload_n 3, 1) := by decide +kernel
theorem dL_heir_1 : decode cL_heir 1 = .ok (.iconst 0, 1) := by decide +kernel
theorem dL_heir_2 : decode cL_heir 2 = .ok (.aload_n 0, 1) := by decide +kernel
theorem dL_heir_3 : decode cL_heir 3 = .ok (.iload_n 1, 1) := by decide +kernel
theorem dL_heir_4 : decode cL_heir 4 = .ok (.iload_n 2, 1) := by decide +kernel
theorem dL_heir_5 : decode cL_heir 5 = .ok (.invokevirtual 21, 3) := by decide +kernel
theorem dL_heir_8 : decode cL_heir 8 = .ok (.i2l, 1) := by decide +kernel
theorem dL_heir_9 : decode cL_heir 9 = .ok (.lastore, 1) := by decide +kernel
theorem dL_heir_10 : decode cL_heir 10 = .ok (.goto 15, 3) := by decide +kernel
theorem dL_heir_13 : decode cL_heir 13 = .ok (.astore 4, 2) := by decide +kernel
theorem dL_heir_15 : decode cL_heir 15 = .ok (.iconst 1, 1) := by decide +kernel
theorem dL_heir_16 : decode cL_heir 16 = .ok (.ireturn, 1) := by decide +kernel
theorem dL_heir_17 : decode cL_heir 17 = .ok (.astore 4, 2) := by decide +kernel
theorem dL_heir_19 : decode cL_heir 19 = .ok (.iconst 2, 1) := by decide +kernel
theorem dL_heir_20 : decode cL_heir 20 = .ok (.ireturn, 1) := by decide +kernel
theorem dL_heir_21 : decode cL_heir 21 = .ok (.astore 4, 2) := by decide +kernel
theorem dL_heir_23 : decode cL_heir 23 = .ok (.iconst 3, 1) := by decide +kernel
theorem dL_heir_24 : decode cL_heir 24 = .ok (.ireturn, 1) := by decide +kernel
theorem dL_heir_25 : decode cL_heir 25 = .ok (.iconst 0, 1) := by decide +kernel
theorem dL_heir_26 : decode cL_heir 26 = .ok (.ireturn, 1) := by decide +kernel
set_option maxRecDepth 20000 in
theorem ggL_persecution_X4_persecution : GoodIn wsL_persecution wsX4_persecution := goodIn_ca (goodIn_ca (goodIn_ca (goodIn_r _ [8, 9, 10, 11, 12, 13, 14, 15, 16, 17, 7, 18, 19, 20, 21, 22, 23, 24, 25, 26, 27, 28, 29, 30, 31, 32, 33, 34, 35, 36, 37, 38, 39, 40, 41, 42, 43, 44, 45, 46, 47, 48, 49, 50] (by decide +kernel) (by decide +kernel)) (goodIn_sub (fun _ h => List.mem_cons_of_mem _ (List.mem_append_left _ (List.mem_append_left _ (List.mem_append_right _ h)))) (by decide +kernel))) (goodIn_sub (fun _ h => List.mem_cons_of_mem _ (List.mem_append_left _ (List.mem_append_right _ h))) (by decide +kernel))) (goodIn_sub (fun _ h => List.mem_cons_of_mem _ (List.mem_append_right _ h)) (by decide +kernel))
set_option maxRecDepth 20000 in
theorem gL_persecution_X4_persecution : GoodIn wsL_persecution (wsV RL 27 RX4 yX4_persecution wsX4_persecution) := goodIn_app (goodIn_of _ (by decide +kernel)) ggL_persecution_X4_persecution
theorem dL_persecution_0 : decode cL_persecution 0 = .ok (.aload 5, 2) := by decide +kernel
theorem dL_persecution_2 : decode cL_persecution 2 = .ok (.iconst 0, 1) := by decide +kernel
theorem dL_persecution_3 : decode cL_persecution 3 = .ok (.aload_n 0, 1) := by decide +kernel
theorem dL_persecution_4 : decode cL_persecution 4 = .ok (.iload_n 1, 1) := by decide +kernel
theorem dL_persecution_5 : decode cL_persecution 5 = .ok (.iload_n 2, 1) := by decide +kernel
theorem dL_persecution_6 : decode cL_persecution 6 = .ok (.iload_n 3, 1) := by decide +kernel
theorem dL_persecution_7 : decode cL_persecution 7 = .ok (.iload 4, 2) := by decide +kernel
theorem dL_persecution_9 : decode cL_persecution 9 = .ok (.invokevirtual 27, 3) := by decide +kernel
theorem dL_persecution_12 : decode cL_persecution 12 = .ok (.i2l, 1) := by decide +kernel
theorem dL_persecution_13 : decode cL_persecution 13 = .ok (.lastore, 1) := by decide +kernel
theorem dL_persecution_14 : decode cL_persecution 14 = .ok (.goto 15, 3) := by decide +kernel
theorem dL_persecution_17 : decode cL_persecution 17 = .ok (.astore 6, 2) := by decide +kernel
theorem dL_persecution_19 : decode cL_persecution 19 = .ok (.iconst 1, 1) := by decide +kernel
theorem dL_persecution_20 : decode cL_persecution 20 = .ok (.ireturn, 1) := by decide +kernel
theorem dL_persecution_21 : decode cL_persecution 21 = .ok (.astore 6, 2) := by decide +kernel
theorem dL_persecution_23 : decode cL_persecution 23 = .ok (.iconst 2, 1) := by decide +kernel
theorem dL_persecution_24 : decode cL_persecution 24 = .ok (.ireturn, 1) := by decide +kernel
theorem dL_persecution_25 : decode cL_persecution 25 = .ok (.astore 6, 2) := by decide +kernel
theorem dL_persecution_27 : decode cL_persecution 27 = .ok (.iconst 3, 1) := by decide +kernel
theorem dL_persecution_28 : decode cL_persecution 28 = .ok (.ireturn, 1) := by decide +kernel
theorem dL_persecution_29 : decode cL_persecution 29 = .ok (.iconst 0, 1) := by decide +kernel
theorem dL_persecution_30 : decode cL_persecution 30 = .ok (.ireturn, 1) := by decide +kernel
set_option maxRecDepth 20000 in
theorem ggL_faith_X4_faith : GoodIn wsL_faith wsX4_faith := goodIn_ca (goodIn_ca (goodIn_r _ [7, 8, 9, 10, 6, 11, 12, 13, 14, 15, 16, 17, 18, 19, 20, 21, 22, 23, 24, 25, 26] (by decide +kernel) (by decide +kernel)) (goodIn_sub (fun _ h => List.mem_cons_of_mem _ (List.mem_append_left _ (List.mem_append_right _ h))) (by decide +kernel))) (goodIn_sub (fun _ h => List.mem_cons_of_mem _ (List.mem_append_right _ h)) (by decide +kernel))
set_option maxRecDepth 20000 in
theorem gL_faith_X4_faith : GoodIn wsL_faith (wsV RL 31 RX4 yX4_faith wsX4_faith) := goodIn_app (goodIn_of _ (by decide +kernel)) ggL_faith_X4_faith
theorem dL_faith_0 : decode cL_faith 0 = .ok (.aload_n 3, 1) := by decide +kernel
theorem dL_faith_1 : decode cL_faith 1 = .ok (.iconst 0, 1) := by decide +kernel
theorem dL_faith_2 : decode cL_faith 2 = .ok (.aload_n 0, 1) := by decide +kernel
theorem dL_faith_3 : decode cL_faith 3 = .ok (.iload_n 1, 1) := by decide +kernel
theorem dL_faith_4 : decode cL_faith 4 = .ok (.iload_n 2, 1) := by decide +kernel
theorem dL_faith_5 : decode cL_faith 5 = .ok (.invokevirtual 31, 3) := by decide +kernel
theorem dL_faith_8 : decode cL_faith 8 = .ok (.i2l, 1) := by decide +kernel
theorem dL_faith_9 : decode cL_faith 9 = .ok (.lastore, 1) := by decide +kernel
theorem dL_faith_10 : decode cL_faith 10 = .ok (.goto 11, 3) := by decide +kernel
theorem dL_faith_13 : decode cL_faith 13 = .ok (.astore 4, 2) := by decide +kernel
theorem dL_faith_15 : decode cL_faith 15 = .ok (.iconst 1, 1) := by decide +kernel
theorem dL_faith_16 : decode cL_faith 16 = .ok (.ireturn, 1) := by decide +kernel
theorem dL_faith_17 : decode cL_faith 17 = .ok (.astore 4, 2) := by decide +kernel
theorem dL_faith_19 : decode cL_faith 19 = .ok (.iconst 2, 1) := by decide +kernel
theorem dL_faith_20 : decode cL_faith 20 = .ok (.ireturn, 1) := by decide +kernel
theorem dL_faith_21 : decode cL_faith 21 = .ok (.iconst 0, 1) := by decide +kernel
theorem dL_faith_22 : decode cL_faith 22 = .ok (.ireturn, 1) := by decide +kernel
set_option maxRecDepth 20000 in
theorem ggL_now_X4_now : GoodIn wsL_now wsX4_now := goodIn_ca (goodIn_r _ [6, 7, 8, 9, 5, 10, 11, 12, 13, 14, 15, 16, 17, 18, 19, 20] (by decide +kernel) (by decide +kernel)) (goodIn_sub (fun _ h => List.mem_cons_of_mem _ (List.mem_append_right _ h)) (by decide +kernel))
set_option maxRecDepth 20000 in
theorem gL_now_X4_now : GoodIn wsL_now (wsV RL 34 RX4 yX4_now wsX4_now) := goodIn_app (goodIn_of _ (by decide +kernel)) ggL_now_X4_now
theorem dL_now_0 : decode cL_now 0 = .ok (.aload_n 2, 1) := by decide +kernel
theorem dL_now_1 : decode cL_now 1 = .ok (.iconst 0, 1) := by decide +kernel
theorem dL_now_2 : decode cL_now 2 = .ok (.aload_n 0, 1) := by decide +kernel
theorem dL_now_3 : decode cL_now 3 = .ok (.iload_n 1, 1) := by decide +kernel
theorem dL_now_4 : decode cL_now 4 = .ok (.invokevirtual 34, 3) := by decide +kernel
theorem dL_now_7 : decode cL_now 7 = .ok (.i2l, 1) := by decide +kernel
theorem dL_now_8 : decode cL_now 8 = .ok (.lastore, 1) := by decide +kernel
theorem dL_now_9 : decode cL_now 9 = .ok (.goto 6, 3) := by decide +kernel
theorem dL_now_12 : decode cL_now 12 = .ok (.astore_n 3, 1) := by decide +kernel
theorem dL_now_13 : decode cL_now 13 = .ok (.iconst 1, 1) := by decide +kernel
theorem dL_now_14 : decode cL_now 14 = .ok (.ireturn, 1) := by decide +kernel
theorem dL_now_15 : decode cL_now 15 = .ok (.iconst 0, 1) := by decide +kernel
theorem dL_now_16 : decode cL_now 16 = .ok (.ireturn, 1) := by decide +kernel
set_option maxRecDepth 20000 in
theorem ggL_thing_X4_thing : GoodIn wsL_thing wsX4_thing := goodIn_ca (goodIn_ca (goodIn_r _ [7, 8, 9, 10, 11, 12, 13, 14, 15, 16, 17, 6, 18, 19, 20, 21, 22, 23, 24, 25, 26, 27, 28, 29, 30, 31, 32, 33, 34, 35, 36, 37, 38, 39, 40, 41, 42, 43, 44] (by decide +kernel) (by decide +kernel)) (goodIn_sub (fun _ h => List.mem_cons_of_mem _ (List.mem_append_left _ (List.mem_append_right _ h))) (by decide +kernel))) (goodIn_sub (fun _ h => List.mem_cons_of_mem _ (List.mem_append_right _ h)) (by decide +kernel))
set_option maxRecDepth 20000 in
theorem gL_thing_X4_thing : GoodIn wsL_thing (wsV RL 37 RX4 yX4_thing wsX4_thing) := goodIn_app (goodIn_of _ (by decide +kernel)) ggL_thing_X4_thing
theorem dL_thing_0 : decode cL_thing 0 = .ok (.aload_n 3, 1) := by decide +kernel
theorem dL_thing_1 : decode cL_thing 1 = .ok (.iconst 0, 1) := by decide +kernel
theorem dL_thing_2 : decode cL_thing 2 = .ok (.aload_n 0, 1) := by decide +kernel
theorem dL_thing_3 : decode cL_thing 3 = .ok (.iload_n 1, 1) := by decide +kernel
theorem dL_thing_4 : decode cL_thing 4 = .ok (.iload_n 2, 1) := by decide +kernel
theorem dL_thing_5 : decode cL_thing 5 = .ok (.invokevirtual 37, 3) := by decide +kernel
theorem dL_thing_8 : decode cL_thing 8 = .ok (.i2l, 1) := by decide +kernel
theorem dL_thing_9 : decode cL_thing 9 = .ok (.lastore, 1) := by decide +kernel
theorem dL_thing_10 : decode cL_thing 10 = .ok (.goto 11, 3) := by decide +kernel
theorem dL_thing_13 : decode cL_thing 13 = .ok (.astore 4, 2) := by decide +kernel
theorem dL_thing_15 : decode cL_thing 15 = .ok (.iconst 1, 1) := by decide +kernel
theorem dL_thing_16 : decode cL_thing 16 = .ok (.ireturn, 1) := by decide +kernel
theorem dL_thing_17 : decode cL_thing 17 = .ok (.astore 4, 2) := by decide +kernel
theorem dL_thing_19 : decode cL_thing 19 = .ok (.iconst 2, 1) := by decide +kernel
theorem dL_thing_20 : decode cL_thing 20 = .ok (.ireturn, 1) := by decide +kernel
theorem dL_thing_21 : decode cL_thing 21 = .ok (.iconst 0, 1) := by decide +kernel
theorem dL_thing_22 : decode cL_thing 22 = .ok (.ireturn, 1) := by decide +kernel
set_option maxRecDepth 20000 in
theorem ggL_mark_X4_mark : GoodIn wsL_mark wsX4_mark := goodIn_ca (goodIn_ca (goodIn_r _ [7, 8, 9, 10, 11, 6, 12, 13, 14, 15, 16, 17, 18, 19, 20, 21, 22, 23, 24, 25, 26, 27, 28, 29, 30, 31, 32, 33, 34] (by decide +kernel) (by decide +kernel)) (goodIn_sub (fun _ h => List.mem_cons_of_mem _ (List.mem_append_left _ (List.mem_append_right _ h))) (by decide +kernel))) (goodIn_sub (fun _ h => List.mem_cons_of_mem _ (List.mem_append_right _ h)) (by decide +kernel))
set_option maxRecDepth 20000 in
theorem gL_mark_X4_mark : GoodIn wsL_mark (wsV RL 40 RX4 yX4_mark wsX4_mark) := goodIn_app (goodIn_of _ (by decide +kernel)) ggL_mark_X4_mark
theorem dL_mark_0 : decode cL_mark 0 = .ok (.aload 4, 2) := by decide +kernel
theorem dL_mark_2 : decode cL_mark 2 = .ok (.iconst 0, 1) := by decide +kernel
theorem dL_mark_3 : decode cL_mark 3 = .ok (.aload_n 0, 1) := by decide +kernel
theorem dL_mark_4 : decode cL_mark 4 = .ok (.iload_n 1, 1) := by decide +kernel
theorem dL_mark_5 : decode cL_mark 5 = .ok (.iload_n 2, 1) := by decide +kernel
theorem dL_mark_6 : decode cL_mark 6 = .ok (.iload_n 3, 1) := by decide +kernel
theorem dL_mark_7 : decode cL_mark 7 = .ok (.invokevirtual 40, 3) := by decide +kernel
theorem dL_mark_10 : decode cL_mark 10 = .ok (.ifCond .eq 7, 3) := by decide +kernel
theorem dL_mark_13 : decode cL_mark 13 = .ok (.lconst 1, 1) := by decide +kernel
theorem dL_mark_14 : decode cL_mark 14 = .ok (.goto 4, 3) := by decide +kernel
theorem dL_mark_17 : decode cL_mark 17 = .ok (.lconst 0, 1) := by decide +kernel
theorem dL_mark_18 : decode cL_mark 18 = .ok (.lastore, 1) := by decide +kernel
theorem dL_mark_19 : decode cL_mark 19 = .ok (.goto 11, 3) := by decide +kernel
theorem dL_mark_22 : decode cL_mark 22 = .ok (.astore 5, 2) := by decide +kernel
theorem dL_mark_24 : decode cL_mark 24 = .ok (.iconst 1, 1) := by decide +kernel
theorem dL_mark_25 : decode cL_mark 25 = .ok (.ireturn, 1) := by decide +kernel
theorem dL_mark_26 : decode cL_mark 26 = .ok (.astore 5, 2) := by decide +kernel
theorem dL_mark_28 : decode cL_mark 28 = .ok (.iconst 2, 1) := by decide +kernel
theorem dL_mark_29 : decode cL_mark 29 = .ok (.ireturn, 1) := by decide +kernel
theorem dL_mark_30 : decode cL_mark 30 = .ok (.iconst 0, 1) := by decide +kernel
theorem dL_mark_31 : decode cL_mark 31 = .ok (.ireturn, 1) := by decide +kernel
set_option maxRecDepth 20000 in
theorem ggL_station_X4_station : GoodIn wsL_station wsX4_station := goodIn_ca (goodIn_ca (goodIn_ca (goodIn_r _ [8, 9, 10, 11, 12, 13, 14, 15, 16, 17, 18, 19, 7, 20, 21, 22, 23, 24, 25, 26, 27, 28, 29, 30, 31, 32, 33, 34, 35, 36, 37, 38, 39, 40, 41, 42, 43, 44, 45, 46, 47, 48, 49, 50, 51, 52, 53, 54, 55, 56, 57, 58, 59, 60, 61, 62, 63, 64, 65, 66, 67, 68, 69, 70, 71, 72, 73, 74, 75, 76, 77, 78, 79, 80] (by decide +kernel) (by decide +kernel)) (goodIn_sub (fun _ h => List.mem_cons_of_mem _ (List.mem_append_left _ (List.mem_append_left _ (List.mem_append_right _ h)))) (by decide +kernel))) (goodIn_sub (fun _ h => List.mem_cons_of_mem _ (List.mem_append_left _ (List.mem_append_right _ h))) (by decide +kernel))) (goodIn_sub (fun _ h => List.mem_cons_of_mem _ (List.mem_append_right _ h)) (by decide +kernel))
set_option maxRecDepth 20000 in
theorem gL_station_X4_station : GoodIn wsL_station (wsV RL 44 RX4 yX4_station wsX4_station) := goodIn_app (goodIn_of _ (by decide +kernel)) ggL_station_X4_station
theorem dL_station_0 : decode cL_station 0 = .ok (.aload 6, 2) := by decide +kernel
theorem dL_station_2 : decode cL_station 2 = .ok (.iconst 0, 1) := by decide +kernel
theorem dL_station_3 : decode cL_station 3 = .ok (.aload_n 0, 1) := by decide +kernel
theorem dL_station_4 : decode cL_station 4 = .ok (.iload_n 1, 1) := by decide +kernel
theorem dL_station_5 : decode cL_station 5 = .ok (.iload_n 2, 1) := by decide +kernel
theorem dL_station_6 : decode cL_station 6 = .ok (.iload_n 3, 1) := by decide +kernel
theorem dL_station_7 : decode cL_station 7 = .ok (.iload 4, 2) := by decide +kernel
theorem dL_station_9 : decode cL_station 9 = .ok (.iload 5, 2) := by decide +kernel
theorem dL_station_11 : decode cL_station 11 = .ok (.invokevirtual 44, 3) := by decide +kernel
theorem dL_station_14 : decode cL_station 14 = .ok (.i2l, 1) := by decide +kernel
theorem dL_station_15 : decode cL_station 15 = .ok (.lastore, 1) := by decide +kernel
theorem dL_station_16 : decode cL_station 16 = .ok (.goto 15, 3) := by decide +kernel
theorem dL_station_19 : decode cL_station 19 = .ok (.astore 7, 2) := by decide +kernel
theorem dL_station_21 : decode cL_station 21 = .ok (.iconst 1, 1) := by decide +kernel
theorem dL_station_22 : decode cL_station 22 = .ok (.ireturn, 1) := by decide +kernel
theorem dL_station_23 : decode cL_station 23 = .ok (.astore 7, 2) := by decide +kernel
theorem dL_station_25 : decode cL_station 25 = .ok (.iconst 2, 1) := by decide +kernel
theorem dL_station_26 : decode cL_station 26 = .ok (.ireturn, 1) := by decide +kernel
theorem dL_station_27 : decode cL_station 27 = .ok (.astore 7, 2) := by decide +kernel
theorem dL_station_29 : decode cL_station 29 = .ok (.iconst 3, 1) := by decide +kernel
theorem dL_station_30 : decode cL_station 30 = .ok (.ireturn, 1) := by decide +kernel
theorem dL_station_31 : decode cL_station 31 = .ok (.iconst 0, 1) := by decide +kernel
theorem dL_station_32 : decode cL_station 32 = .ok (.ireturn, 1) := by decide +kernel
set_option maxRecDepth 20000 in
theorem ggL_rebut_X4_rebut : GoodIn wsL_rebut wsX4_rebut := goodIn_ca (goodIn_ca (goodIn_r _ [7, 8, 9, 10, 11, 12, 13, 14, 6, 15, 16, 17, 18, 19, 20, 21, 22, 23, 24, 25, 26, 27, 28, 29, 30, 31, 32, 33, 34, 35, 36, 37, 38, 39, 40, 41, 42, 43, 44, 45, 46] (by decide +kernel) (by decide +kernel)) (goodIn_sub (fun _ h => List.mem_cons_of_mem _ (List.mem_append_left _ (List.mem_append_right _ h))) (by decide +kernel))) (goodIn_sub (fun _ h => List.mem_cons_of_mem _ (List.mem_append_right _ h)) (by decide +kernel))
set_option maxRecDepth 20000 in
theorem gL_rebut_X4_rebut : GoodIn wsL_rebut (wsV RL 48 RX4 yX4_rebut wsX4_rebut) := goodIn_app (goodIn_of _ (by decide +kernel)) ggL_rebut_X4_rebut
theorem dL_rebut_0 : decode cL_rebut 0 = .ok (.aload 4, 2) := by decide +kernel
theorem dL_rebut_2 : decode cL_rebut 2 = .ok (.iconst 0, 1) := by decide +kernel
theorem dL_rebut_3 : decode cL_rebut 3 = .ok (.aload_n 0, 1) := by decide +kernel
theorem dL_rebut_4 : decode cL_rebut 4 = .ok (.iload_n 1, 1) := by decide +kernel
theorem dL_rebut_5 : decode cL_rebut 5 = .ok (.iload_n 2, 1) := by decide +kernel
theorem dL_rebut_6 : decode cL_rebut 6 = .ok (.iload_n 3, 1) := by decide +kernel
theorem dL_rebut_7 : decode cL_rebut 7 = .ok (.invokevirtual 48, 3) := by decide +kernel
theorem dL_rebut_10 : decode cL_rebut 10 = .ok (.ifCond .eq 7, 3) := by decide +kernel
theorem dL_rebut_13 : decode cL_rebut 13 = .ok (.lconst 1, 1) := by decide +kernel
theorem dL_rebut_14 : decode cL_rebut 14 = .ok (.goto 4, 3) := by decide +kernel
theorem dL_rebut_17 : decode cL_rebut 17 = .ok (.lconst 0, 1) := by decide +kernel
theorem dL_rebut_18 : decode cL_rebut 18 = .ok (.lastore, 1) := by decide +kernel
theorem dL_rebut_19 : decode cL_rebut 19 = .ok (.goto 11, 3) := by decide +kernel
theorem dL_rebut_22 : decode cL_rebut 22 = .ok (.astore 5, 2) := by decide +kernel
theorem dL_rebut_24 : decode cL_rebut 24 = .ok (.iconst 1, 1) := by decide +kernel
theorem dL_rebut_25 : decode cL_rebut 25 = .ok (.ireturn, 1) := by decide +kernel
theorem dL_rebut_26 : decode cL_rebut 26 = .ok (.astore 5, 2) := by decide +kernel
theorem dL_rebut_28 : decode cL_rebut 28 = .ok (.iconst 2, 1) := by decide +kernel
theorem dL_rebut_29 : decode cL_rebut 29 = .ok (.ireturn, 1) := by decide +kernel
theorem dL_rebut_30 : decode cL_rebut 30 = .ok (.iconst 0, 1) := by decide +kernel
theorem dL_rebut_31 : decode cL_rebut 31 = .ok (.ireturn, 1) := by decide +kernel
set_option maxRecDepth 20000 in
theorem ggL_settle_X4_settle : GoodIn wsL_settle wsX4_settle := goodIn_ca (goodIn_r _ [6, 7, 8, 9, 10, 5, 11, 12, 13, 14, 15, 16, 17, 18, 19, 20, 21, 22, 23, 24, 25, 26, 27, 28, 29, 30, 31, 32, 33, 34, 35, 36, 37, 38, 39, 40, 41, 42] (by decide +kernel) (by decide +kernel)) (goodIn_sub (fun _ h => List.mem_cons_of_mem _ (List.mem_append_right _ h)) (by decide +kernel))
set_option maxRecDepth 20000 in
theorem gL_settle_X4_settle : GoodIn wsL_settle (wsV RL 51 RX4 yX4_settle wsX4_settle) := goodIn_app (goodIn_of _ (by decide +kernel)) ggL_settle_X4_settle
theorem dL_settle_0 : decode cL_settle 0 = .ok (.aload 4, 2) := by decide +kernel
theorem dL_settle_2 : decode cL_settle 2 = .ok (.iconst 0, 1) := by decide +kernel
theorem dL_settle_3 : decode cL_settle 3 = .ok (.aload_n 0, 1) := by decide +kernel
theorem dL_settle_4 : decode cL_settle 4 = .ok (.iload_n 1, 1) := by decide +kernel
theorem dL_settle_5 : decode cL_settle 5 = .ok (.iload_n 2, 1) := by decide +kernel
theorem dL_settle_6 : decode cL_settle 6 = .ok (.iload_n 3, 1) := by decide +kernel
theorem dL_settle_7 : decode cL_settle 7 = .ok (.invokevirtual 51, 3) := by decide +kernel
theorem dL_settle_10 : decode cL_settle 10 = .ok (.ifCond .eq 7, 3) := by decide +kernel
theorem dL_settle_13 : decode cL_settle 13 = .ok (.lconst 1, 1) := by decide +kernel
theorem dL_settle_14 : decode cL_settle 14 = .ok (.goto 4, 3) := by decide +kernel
theorem dL_settle_17 : decode cL_settle 17 = .ok (.lconst 0, 1) := by decide +kernel
theorem dL_settle_18 : decode cL_settle 18 = .ok (.lastore, 1) := by decide +kernel
theorem dL_settle_19 : decode cL_settle 19 = .ok (.goto 7, 3) := by decide +kernel
theorem dL_settle_22 : decode cL_settle 22 = .ok (.astore 5, 2) := by decide +kernel
theorem dL_settle_24 : decode cL_settle 24 = .ok (.iconst 1, 1) := by decide +kernel
theorem dL_settle_25 : decode cL_settle 25 = .ok (.ireturn, 1) := by decide +kernel
theorem dL_settle_26 : decode cL_settle 26 = .ok (.iconst 0, 1) := by decide +kernel
theorem dL_settle_27 : decode cL_settle 27 = .ok (.ireturn, 1) := by decide +kernel
set_option maxRecDepth 20000 in
theorem ggL_isPersecuted_X4_isPersecuted : GoodIn wsL_isPersecuted wsX4_isPersecuted := goodIn_ca (goodIn_ca (goodIn_r _ [7, 8, 9, 10, 6, 11, 12, 13, 14, 15, 16, 17, 18, 19, 20, 21, 22, 23, 24, 25, 26, 27, 28, 29, 30, 31, 32, 33, 34, 35, 36, 37, 38, 39, 40, 41, 42, 43, 44, 45, 46, 47, 48, 49, 50, 51, 52, 53, 54, 55] (by decide +kernel) (by decide +kernel)) (goodIn_sub (fun _ h => List.mem_cons_of_mem _ (List.mem_append_left _ (List.mem_append_right _ h))) (by decide +kernel))) (goodIn_sub (fun _ h => List.mem_cons_of_mem _ (List.mem_append_right _ h)) (by decide +kernel))
set_option maxRecDepth 20000 in
theorem gL_isPersecuted_X4_isPersecuted : GoodIn wsL_isPersecuted (wsV RL 54 RX4 yX4_isPersecuted wsX4_isPersecuted) := goodIn_app (goodIn_of _ (by decide +kernel)) ggL_isPersecuted_X4_isPersecuted
theorem dL_isPersecuted_0 : decode cL_isPersecuted 0 = .ok (.aload 4, 2) := by decide +kernel
theorem dL_isPersecuted_2 : decode cL_isPersecuted 2 = .ok (.iconst 0, 1) := by decide +kernel
theorem dL_isPersecuted_3 : decode cL_isPersecuted 3 = .ok (.aload_n 0, 1) := by decide +kernel
theorem dL_isPersecuted_4 : decode cL_isPersecuted 4 = .ok (.iload_n 1, 1) := by decide +kernel
theorem dL_isPersecuted_5 : decode cL_isPersecuted 5 = .ok (.iload_n 2, 1) := by decide +kernel
theorem dL_isPersecuted_6 : decode cL_isPersecuted 6 = .ok (.iload_n 3, 1) := by decide +kernel
theorem dL_isPersecuted_7 : decode cL_isPersecuted 7 = .ok (.invokevirtual 54, 3) := by decide +kernel
theorem dL_isPersecuted_10 : decode cL_isPersecuted 10 = .ok (.ifCond .eq 7, 3) := by decide +kernel
theorem dL_isPersecuted_13 : decode cL_isPersecuted 13 = .ok (.lconst 1, 1) := by decide +kernel
theorem dL_isPersecuted_14 : decode cL_isPersecuted 14 = .ok (.goto 4, 3) := by decide +kernel
theorem dL_isPersecuted_17 : decode cL_isPersecuted 17 = .ok (.lconst 0, 1) := by decide +kernel
theorem dL_isPersecuted_18 : decode cL_isPersecuted 18 = .ok (.lastore, 1) := by decide +kernel
theorem dL_isPersecuted_19 : decode cL_isPersecuted 19 = .ok (.goto 11, 3) := by decide +kernel
theorem dL_isPersecuted_22 : decode cL_isPersecuted 22 = .ok (.astore 5, 2) := by decide +kernel
theorem dL_isPersecuted_24 : decode cL_isPersecuted 24 = .ok (.iconst 1, 1) := by decide +kernel
theorem dL_isPersecuted_25 : decode cL_isPersecuted 25 = .ok (.ireturn, 1) := by decide +kernel
theorem dL_isPersecuted_26 : decode cL_isPersecuted 26 = .ok (.astore 5, 2) := by decide +kernel
theorem dL_isPersecuted_28 : decode cL_isPersecuted 28 = .ok (.iconst 2, 1) := by decide +kernel
theorem dL_isPersecuted_29 : decode cL_isPersecuted 29 = .ok (.ireturn, 1) := by decide +kernel
theorem dL_isPersecuted_30 : decode cL_isPersecuted 30 = .ok (.iconst 0, 1) := by decide +kernel
theorem dL_isPersecuted_31 : decode cL_isPersecuted 31 = .ok (.ireturn, 1) := by decide +kernel
set_option maxRecDepth 20000 in
theorem ggL_heirOf_X4_heirOf : GoodIn wsL_heirOf wsX4_heirOf := goodIn_ca (goodIn_r _ [6, 7, 8, 9, 5, 10, 11, 12, 13, 14, 15, 16, 17, 18, 19, 20, 21, 22, 23, 24, 25, 26, 27, 28, 29, 30, 31, 32, 33, 34, 35, 36, 37, 38, 39] (by decide +kernel) (by decide +kernel)) (goodIn_sub (fun _ h => List.mem_cons_of_mem _ (List.mem_append_right _ h)) (by decide +kernel))
set_option maxRecDepth 20000 in
theorem gL_heirOf_X4_heirOf : GoodIn wsL_heirOf (wsV RL 58 RX4 yX4_heirOf wsX4_heirOf) := goodIn_app (goodIn_of _ (by decide +kernel)) ggL_heirOf_X4_heirOf
theorem dL_heirOf_0 : decode cL_heirOf 0 = .ok (.aload_n 2, 1) := by decide +kernel
theorem dL_heirOf_1 : decode cL_heirOf 1 = .ok (.iconst 0, 1) := by decide +kernel
theorem dL_heirOf_2 : decode cL_heirOf 2 = .ok (.aload_n 0, 1) := by decide +kernel
theorem dL_heirOf_3 : decode cL_heirOf 3 = .ok (.iload_n 1, 1) := by decide +kernel
theorem dL_heirOf_4 : decode cL_heirOf 4 = .ok (.invokevirtual 58, 3) := by decide +kernel
theorem dL_heirOf_7 : decode cL_heirOf 7 = .ok (.i2l, 1) := by decide +kernel
theorem dL_heirOf_8 : decode cL_heirOf 8 = .ok (.lastore, 1) := by decide +kernel
theorem dL_heirOf_9 : decode cL_heirOf 9 = .ok (.goto 6, 3) := by decide +kernel
theorem dL_heirOf_12 : decode cL_heirOf 12 = .ok (.astore_n 3, 1) := by decide +kernel
theorem dL_heirOf_13 : decode cL_heirOf 13 = .ok (.iconst 1, 1) := by decide +kernel
theorem dL_heirOf_14 : decode cL_heirOf 14 = .ok (.ireturn, 1) := by decide +kernel
theorem dL_heirOf_15 : decode cL_heirOf 15 = .ok (.iconst 0, 1) := by decide +kernel
theorem dL_heirOf_16 : decode cL_heirOf 16 = .ok (.ireturn, 1) := by decide +kernel
set_option maxRecDepth 20000 in
theorem ggL_likeness_X4_likeness : GoodIn wsL_likeness wsX4_likeness := goodIn_ca (goodIn_r _ [6, 7, 8, 9, 5, 10, 11, 12, 13, 14, 15, 16, 17, 18, 19, 20, 21, 22, 23, 24, 25, 26, 27, 28, 29, 30, 31, 32, 33, 34, 35, 36, 37, 38, 39, 40, 41, 42, 43, 44, 45] (by decide +kernel) (by decide +kernel)) (goodIn_sub (fun _ h => List.mem_cons_of_mem _ (List.mem_append_right _ h)) (by decide +kernel))
set_option maxRecDepth 20000 in
theorem gL_likeness_X4_likeness : GoodIn wsL_likeness (wsV RL 61 RX4 yX4_likeness wsX4_likeness) := goodIn_app (goodIn_of _ (by decide +kernel)) ggL_likeness_X4_likeness
theorem dL_likeness_0 : decode cL_likeness 0 = .ok (.aload_n 3, 1) := by decide +kernel
theorem dL_likeness_1 : decode cL_likeness 1 = .ok (.iconst 0, 1) := by decide +kernel
theorem dL_likeness_2 : decode cL_likeness 2 = .ok (.aload_n 0, 1) := by decide +kernel
theorem dL_likeness_3 : decode cL_likeness 3 = .ok (.iload_n 1, 1) := by decide +kernel
theorem dL_likeness_4 : decode cL_likeness 4 = .ok (.iload_n 2, 1) := by decide +kernel
theorem dL_likeness_5 : decode cL_likeness 5 = .ok (.invokevirtual 61, 3) := by decide +kernel
theorem dL_likeness_8 : decode cL_likeness 8 = .ok (.i2l, 1) := by decide +kernel
theorem dL_likeness_9 : decode cL_likeness 9 = .ok (.lastore, 1) := by decide +kernel
theorem dL_likeness_10 : decode cL_likeness 10 = .ok (.goto 7, 3) := by decide +kernel
theorem dL_likeness_13 : decode cL_likeness 13 = .ok (.astore 4, 2) := by decide +kernel
theorem dL_likeness_15 : decode cL_likeness 15 = .ok (.iconst 1, 1) := by decide +kernel
theorem dL_likeness_16 : decode cL_likeness 16 = .ok (.ireturn, 1) := by decide +kernel
theorem dL_likeness_17 : decode cL_likeness 17 = .ok (.iconst 0, 1) := by decide +kernel
theorem dL_likeness_18 : decode cL_likeness 18 = .ok (.ireturn, 1) := by decide +kernel
set_option maxRecDepth 20000 in
theorem ggL_likest_X4_likest : GoodIn wsL_likest wsX4_likest := goodIn_ca (goodIn_r _ [6, 7, 8, 9, 10, 5, 11, 12, 13, 14, 15, 16, 17, 18, 19, 20, 21, 22, 23, 24, 25, 26, 27, 28, 29, 30, 31, 32, 33, 34, 35, 36, 37, 38, 39, 40, 41, 42, 43, 44, 45] (by decide +kernel) (by decide +kernel)) (goodIn_sub (fun _ h => List.mem_cons_of_mem _ (List.mem_append_right _ h)) (by decide +kernel))
set_option maxRecDepth 20000 in
theorem gL_likest_X4_likest : GoodIn wsL_likest (wsV RL 64 RX4 yX4_likest wsX4_likest) := goodIn_app (goodIn_of _ (by decide +kernel)) ggL_likest_X4_likest
theorem dL_likest_0 : decode cL_likest 0 = .ok (.aload_n 2, 1) := by decide +kernel
theorem dL_likest_1 : decode cL_likest 1 = .ok (.iconst 0, 1) := by decide +kernel
theorem dL_likest_2 : decode cL_likest 2 = .ok (.aload_n 0, 1) := by decide +kernel
theorem dL_likest_3 : decode cL_likest 3 = .ok (.iload_n 1, 1) := by decide +kernel
theorem dL_likest_4 : decode cL_likest 4 = .ok (.invokevirtual 64, 3) := by decide +kernel
theorem dL_likest_7 : decode cL_likest 7 = .ok (.i2l, 1) := by decide +kernel
theorem dL_likest_8 : decode cL_likest 8 = .ok (.lastore, 1) := by decide +kernel
theorem dL_likest_9 : decode cL_likest 9 = .ok (.goto 6, 3) := by decide +kernel
theorem dL_likest_12 : decode cL_likest 12 = .ok (.astore_n 3, 1) := by decide +kernel
theorem dL_likest_13 : decode cL_likest 13 = .ok (.iconst 1, 1) := by decide +kernel
theorem dL_likest_14 : decode cL_likest 14 = .ok (.ireturn, 1) := by decide +kernel
theorem dL_likest_15 : decode cL_likest 15 = .ok (.iconst 0, 1) := by decide +kernel
theorem dL_likest_16 : decode cL_likest 16 = .ok (.ireturn, 1) := by decide +kernel
set_option maxRecDepth 20000 in
theorem ggL_stationAt_X4_stationAt : GoodIn wsL_stationAt wsX4_stationAt := goodIn_ca (goodIn_r _ [6, 7, 8, 9, 10, 11, 12, 13, 14, 5, 15, 16, 17, 18, 19, 20, 21, 22, 23, 24, 25, 26, 27, 28, 29, 30, 31, 32, 33, 34, 35, 36, 37, 38, 39] (by decide +kernel) (by decide +kernel)) (goodIn_sub (fun _ h => List.mem_cons_of_mem _ (List.mem_append_right _ h)) (by decide +kernel))
set_option maxRecDepth 20000 in
theorem gL_stationAt_X4_stationAt : GoodIn wsL_stationAt (wsV RL 67 RX4 yX4_stationAt wsX4_stationAt) := goodIn_app (goodIn_of _ (by decide +kernel)) ggL_stationAt_X4_stationAt
theorem dL_stationAt_0 : decode cL_stationAt 0 = .ok (.aload_n 3, 1) := by decide +kernel
theorem dL_stationAt_1 : decode cL_stationAt 1 = .ok (.iconst 0, 1) := by decide +kernel
theorem dL_stationAt_2 : decode cL_stationAt 2 = .ok (.aload_n 0, 1) := by decide +kernel
theorem dL_stationAt_3 : decode cL_stationAt 3 = .ok (.iload_n 1, 1) := by decide +kernel
theorem dL_stationAt_4 : decode cL_stationAt 4 = .ok (.iload_n 2, 1) := by decide +kernel
theorem dL_stationAt_5 : decode cL_stationAt 5 = .ok (.invokevirtual 67, 3) := by decide +kernel
theorem dL_stationAt_8 : decode cL_stationAt 8 = .ok (.i2l, 1) := by decide +kernel
theorem dL_stationAt_9 : decode cL_stationAt 9 = .ok (.lastore, 1) := by decide +kernel
theorem dL_stationAt_10 : decode cL_stationAt 10 = .ok (.goto 7, 3) := by decide +kernel
theorem dL_stationAt_13 : decode cL_stationAt 13 = .ok (.astore 4, 2) := by decide +kernel
theorem dL_stationAt_15 : decode cL_stationAt 15 = .ok (.iconst 1, 1) := by decide +kernel
theorem dL_stationAt_16 : decode cL_stationAt 16 = .ok (.ireturn, 1) := by decide +kernel
theorem dL_stationAt_17 : decode cL_stationAt 17 = .ok (.iconst 0, 1) := by decide +kernel
theorem dL_stationAt_18 : decode cL_stationAt 18 = .ok (.ireturn, 1) := by decide +kernel
set_option maxRecDepth 20000 in
theorem ggL_isLoss_X4_isLoss : GoodIn wsL_isLoss wsX4_isLoss := goodIn_ca (goodIn_r _ [6, 7, 8, 9, 5, 10, 11, 12, 13, 14, 15, 16, 17, 18, 19, 20, 21, 22, 23, 24, 25, 26, 27, 28, 29, 30, 31, 32, 33, 34, 35, 36, 37, 38, 39, 40, 41, 42, 43, 44, 45, 46, 47, 48, 49, 50, 51, 52, 53, 54, 55, 56, 57, 58, 59, 60, 61, 62, 63, 64, 65, 66, 67, 68, 69, 70, 71, 72, 73, 74, 75, 76] (by decide +kernel) (by decide +kernel)) (goodIn_sub (fun _ h => List.mem_cons_of_mem _ (List.mem_append_right _ h)) (by decide +kernel))
set_option maxRecDepth 20000 in
theorem gL_isLoss_X4_isLoss : GoodIn wsL_isLoss (wsV RL 70 RX4 yX4_isLoss wsX4_isLoss) := goodIn_app (goodIn_of _ (by decide +kernel)) ggL_isLoss_X4_isLoss
theorem dL_isLoss_0 : decode cL_isLoss 0 = .ok (.aload_n 3, 1) := by decide +kernel
theorem dL_isLoss_1 : decode cL_isLoss 1 = .ok (.iconst 0, 1) := by decide +kernel
theorem dL_isLoss_2 : decode cL_isLoss 2 = .ok (.aload_n 0, 1) := by decide +kernel
theorem dL_isLoss_3 : decode cL_isLoss 3 = .ok (.iload_n 1, 1) := by decide +kernel
theorem dL_isLoss_4 : decode cL_isLoss 4 = .ok (.iload_n 2, 1) := by decide +kernel
theorem dL_isLoss_5 : decode cL_isLoss 5 = .ok (.invokevirtual 70, 3) := by decide +kernel
theorem dL_isLoss_8 : decode cL_isLoss 8 = .ok (.ifCond .eq 7, 3) := by decide +kernel
theorem dL_isLoss_11 : decode cL_isLoss 11 = .ok (.lconst 1, 1) := by decide +kernel
theorem dL_isLoss_12 : decode cL_isLoss 12 = .ok (.goto 4, 3) := by decide +kernel
theorem dL_isLoss_15 : decode cL_isLoss 15 = .ok (.lconst 0, 1) := by decide +kernel
theorem dL_isLoss_16 : decode cL_isLoss 16 = .ok (.lastore, 1) := by decide +kernel
theorem dL_isLoss_17 : decode cL_isLoss 17 = .ok (.goto 7, 3) := by decide +kernel
theorem dL_isLoss_20 : decode cL_isLoss 20 = .ok (.astore 4, 2) := by decide +kernel
theorem dL_isLoss_22 : decode cL_isLoss 22 = .ok (.iconst 1, 1) := by decide +kernel
theorem dL_isLoss_23 : decode cL_isLoss 23 = .ok (.ireturn, 1) := by decide +kernel
theorem dL_isLoss_24 : decode cL_isLoss 24 = .ok (.iconst 0, 1) := by decide +kernel
theorem dL_isLoss_25 : decode cL_isLoss 25 = .ok (.ireturn, 1) := by decide +kernel
set_option maxRecDepth 20000 in
theorem ggL_holder_X4_holder : GoodIn wsL_holder wsX4_holder := goodIn_ca (goodIn_r _ [6, 7, 8, 9, 5, 10, 11, 12, 13, 14, 15, 16, 17, 18, 19, 20, 21, 22, 23, 24, 25, 26, 27, 28, 29, 30, 31, 32, 33, 34, 35, 36, 37, 38, 39, 40, 41, 42, 43, 44, 45, 46, 47, 48, 49, 50, 51, 52, 53] (by decide +kernel) (by decide +kernel)) (goodIn_sub (fun _ h => List.mem_cons_of_mem _ (List.mem_append_right _ h)) (by decide +kernel))
set_option maxRecDepth 20000 in
theorem gL_holder_X4_holder : GoodIn wsL_holder (wsV RL 74 RX4 yX4_holder wsX4_holder) := goodIn_app (goodIn_of _ (by decide +kernel)) ggL_holder_X4_holder
theorem dL_holder_0 : decode cL_holder 0 = .ok (.aload_n 2, 1) := by decide +kernel
theorem dL_holder_1 : decode cL_holder 1 = .ok (.iconst 0, 1) := by decide +kernel
theorem dL_holder_2 : decode cL_holder 2 = .ok (.aload_n 0, 1) := by decide +kernel
theorem dL_holder_3 : decode cL_holder 3 = .ok (.iload_n 1, 1) := by decide +kernel
theorem dL_holder_4 : decode cL_holder 4 = .ok (.invokevirtual 74, 3) := by decide +kernel
theorem dL_holder_7 : decode cL_holder 7 = .ok (.i2l, 1) := by decide +kernel
theorem dL_holder_8 : decode cL_holder 8 = .ok (.lastore, 1) := by decide +kernel
theorem dL_holder_9 : decode cL_holder 9 = .ok (.goto 6, 3) := by decide +kernel
theorem dL_holder_12 : decode cL_holder 12 = .ok (.astore_n 3, 1) := by decide +kernel
theorem dL_holder_13 : decode cL_holder 13 = .ok (.iconst 1, 1) := by decide +kernel
theorem dL_holder_14 : decode cL_holder 14 = .ok (.ireturn, 1) := by decide +kernel
theorem dL_holder_15 : decode cL_holder 15 = .ok (.iconst 0, 1) := by decide +kernel
theorem dL_holder_16 : decode cL_holder 16 = .ok (.ireturn, 1) := by decide +kernel
set_option maxRecDepth 20000 in
theorem ggL_owner_X4_owner : GoodIn wsL_owner wsX4_owner := goodIn_ca (goodIn_r _ [6, 7, 8, 9, 5, 10, 11, 12, 13, 14, 15, 16, 17, 18, 19, 20, 21, 22, 23, 24, 25, 26, 27, 28, 29, 30, 31, 32, 33, 34, 35, 36, 37, 38, 39, 40, 41, 42, 43, 44, 45, 46, 47, 48, 49, 50, 51, 52, 53, 54, 55, 56, 57, 58, 59, 60, 61, 62, 63, 64, 65, 66, 67, 68, 69, 70, 71, 72, 73, 74, 75, 76, 77, 78, 79, 80, 81, 82, 83, 84, 85, 86, 87, 88, 89, 90, 91, 92, 93, 94, 95, 96, 97, 98, 99, 100] (by decide +kernel) (by decide +kernel)) (goodIn_sub (fun _ h => List.mem_cons_of_mem _ (List.mem_append_right _ h)) (by decide +kernel))
set_option maxRecDepth 20000 in
theorem gL_owner_X4_owner : GoodIn wsL_owner (wsV RL 77 RX4 yX4_owner wsX4_owner) := goodIn_app (goodIn_of _ (by decide +kernel)) ggL_owner_X4_owner
theorem dL_owner_0 : decode cL_owner 0 = .ok (.aload_n 2, 1) := by decide +kernel
theorem dL_owner_1 : decode cL_owner 1 = .ok (.iconst 0, 1) := by decide +kernel
theorem dL_owner_2 : decode cL_owner 2 = .ok (.aload_n 0, 1) := by decide +kernel
theorem dL_owner_3 : decode cL_owner 3 = .ok (.iload_n 1, 1) := by decide +kernel
theorem dL_owner_4 : decode cL_owner 4 = .ok (.invokevirtual 77, 3) := by decide +kernel
theorem dL_owner_7 : decode cL_owner 7 = .ok (.i2l, 1) := by decide +kernel
theorem dL_owner_8 : decode cL_owner 8 = .ok (.lastore, 1) := by decide +kernel
theorem dL_owner_9 : decode cL_owner 9 = .ok (.goto 6, 3) := by decide +kernel
theorem dL_owner_12 : decode cL_owner 12 = .ok (.astore_n 3, 1) := by decide +kernel
theorem dL_owner_13 : decode cL_owner 13 = .ok (.iconst 1, 1) := by decide +kernel
theorem dL_owner_14 : decode cL_owner 14 = .ok (.ireturn, 1) := by decide +kernel
theorem dL_owner_15 : decode cL_owner 15 = .ok (.iconst 0, 1) := by decide +kernel
theorem dL_owner_16 : decode cL_owner 16 = .ok (.ireturn, 1) := by decide +kernel
set_option maxRecDepth 20000 in
theorem ggL_ownerAnew_X4_ownerAnew : GoodIn wsL_ownerAnew wsX4_ownerAnew := goodIn_ca (goodIn_r _ [6, 7, 8, 9, 5, 10, 11, 12, 13, 14, 15, 16, 17, 18, 19, 20, 21, 22, 23, 24, 25, 26, 27, 28, 29, 30, 31, 32, 33, 34, 35, 36, 37, 38, 39, 40, 41, 42, 43, 44, 45, 46, 47, 48, 49, 50, 51, 52, 53, 54, 55, 56, 57, 58, 59, 60, 61, 62, 63, 64, 65, 66, 67, 68, 69, 70, 71, 72, 73, 74, 75, 76, 77, 78, 79, 80, 81, 82, 83, 84, 85, 86, 87, 88, 89, 90, 91, 92, 93, 94, 95, 96, 97] (by decide +kernel) (by decide +kernel)) (goodIn_sub (fun _ h => List.mem_cons_of_mem _ (List.mem_append_right _ h)) (by decide +kernel))
set_option maxRecDepth 20000 in
theorem gL_ownerAnew_X4_ownerAnew : GoodIn wsL_ownerAnew (wsV RL 80 RX4 yX4_ownerAnew wsX4_ownerAnew) := goodIn_app (goodIn_of _ (by decide +kernel)) ggL_ownerAnew_X4_ownerAnew
theorem dL_ownerAnew_0 : decode cL_ownerAnew 0 = .ok (.aload_n 2, 1) := by decide +kernel
theorem dL_ownerAnew_1 : decode cL_ownerAnew 1 = .ok (.iconst 0, 1) := by decide +kernel
theorem dL_ownerAnew_2 : decode cL_ownerAnew 2 = .ok (.aload_n 0, 1) := by decide +kernel
theorem dL_ownerAnew_3 : decode cL_ownerAnew 3 = .ok (.iload_n 1, 1) := by decide +kernel
theorem dL_ownerAnew_4 : decode cL_ownerAnew 4 = .ok (.invokevirtual 80, 3) := by decide +kernel
theorem dL_ownerAnew_7 : decode cL_ownerAnew 7 = .ok (.i2l, 1) := by decide +kernel
theorem dL_ownerAnew_8 : decode cL_ownerAnew 8 = .ok (.lastore, 1) := by decide +kernel
theorem dL_ownerAnew_9 : decode cL_ownerAnew 9 = .ok (.goto 6, 3) := by decide +kernel
theorem dL_ownerAnew_12 : decode cL_ownerAnew 12 = .ok (.astore_n 3, 1) := by decide +kernel
theorem dL_ownerAnew_13 : decode cL_ownerAnew 13 = .ok (.iconst 1, 1) := by decide +kernel
theorem dL_ownerAnew_14 : decode cL_ownerAnew 14 = .ok (.ireturn, 1) := by decide +kernel
theorem dL_ownerAnew_15 : decode cL_ownerAnew 15 = .ok (.iconst 0, 1) := by decide +kernel
theorem dL_ownerAnew_16 : decode cL_ownerAnew 16 = .ok (.ireturn, 1) := by decide +kernel
set_option maxRecDepth 20000 in
theorem ggL_asks_X4_asks : GoodIn wsL_asks wsX4_asks := goodIn_ca (goodIn_r _ [6, 7, 8, 9, 10, 5, 11, 12, 13, 14, 15, 16, 17, 18, 19, 20, 21, 22, 23, 24, 25, 26, 27, 28, 29, 30, 31, 32, 33, 34, 35, 36, 37, 38, 39, 40, 41, 42, 43, 44, 45, 46, 47, 48, 49, 50, 51, 52, 53, 54, 55, 56, 57, 58, 59, 60, 61, 62, 63, 64, 65, 66, 67, 68, 69, 70, 71, 72, 73, 74, 75, 76, 77, 78, 79, 80, 81, 82, 83, 84, 85, 86, 87, 88, 89, 90, 91, 92, 93, 94, 95, 96, 97, 98, 99, 100, 101, 102, 103, 104] (by decide +kernel) (by decide +kernel)) (goodIn_sub (fun _ h => List.mem_cons_of_mem _ (List.mem_append_right _ h)) (by decide +kernel))
set_option maxRecDepth 20000 in
theorem gL_asks_X4_asks : GoodIn wsL_asks (wsV RL 83 RX4 yX4_asks wsX4_asks) := goodIn_app (goodIn_of _ (by decide +kernel)) ggL_asks_X4_asks
theorem dL_asks_0 : decode cL_asks 0 = .ok (.aload_n 2, 1) := by decide +kernel
theorem dL_asks_1 : decode cL_asks 1 = .ok (.iconst 0, 1) := by decide +kernel
theorem dL_asks_2 : decode cL_asks 2 = .ok (.aload_n 0, 1) := by decide +kernel
theorem dL_asks_3 : decode cL_asks 3 = .ok (.iload_n 1, 1) := by decide +kernel
theorem dL_asks_4 : decode cL_asks 4 = .ok (.invokevirtual 83, 3) := by decide +kernel
theorem dL_asks_7 : decode cL_asks 7 = .ok (.i2l, 1) := by decide +kernel
theorem dL_asks_8 : decode cL_asks 8 = .ok (.lastore, 1) := by decide +kernel
theorem dL_asks_9 : decode cL_asks 9 = .ok (.goto 6, 3) := by decide +kernel
theorem dL_asks_12 : decode cL_asks 12 = .ok (.astore_n 3, 1) := by decide +kernel
theorem dL_asks_13 : decode cL_asks 13 = .ok (.iconst 1, 1) := by decide +kernel
theorem dL_asks_14 : decode cL_asks 14 = .ok (.ireturn, 1) := by decide +kernel
theorem dL_asks_15 : decode cL_asks 15 = .ok (.iconst 0, 1) := by decide +kernel
theorem dL_asks_16 : decode cL_asks 16 = .ok (.ireturn, 1) := by decide +kernel
set_option maxRecDepth 20000 in
theorem ggL_law_X4_init : GoodIn wsL_law wsX4_init := goodIn_r _ [9, 10, 11, 12, 13, 14, 15, 16, 17, 18, 19, 20, 21, 517, 518, 519, 520, 521, 522, 523, 524] (by decide +kernel) (by decide +kernel)
set_option maxRecDepth 20000 in
theorem gL_law_X4_init : GoodIn wsL_law (wsX4_init) := ggL_law_X4_init
set_option maxRecDepth 20000 in
theorem ggL_law_X5_init : GoodIn wsL_law wsX5_init := goodIn_r _ [24, 25, 11, 12, 26, 17, 27, 28, 29, 30, 31, 32, 33, 34, 35, 36, 37, 38, 39, 40, 41, 42, 43, 525, 526, 527, 528, 529, 530, 531, 532, 533, 534, 535, 536, 537, 538, 539, 540, 541, 542, 543, 544, 545] (by decide +kernel) (by decide +kernel)
set_option maxRecDepth 20000 in
theorem gL_law_X5_init : GoodIn wsL_law (wsX5_init) := ggL_law_X5_init
set_option maxRecDepth 20000 in
theorem ggL_law_L_person : GoodIn wsL_law wsL_person := goodIn_ca (goodIn_ca (goodIn_r _ [47, 48, 49, 50, 51, 52, 2, 53, 54, 55, 56, 14, 13, 57, 58, 59, 60, 61, 62, 63, 64, 65, 66, 67, 11, 12, 68, 69, 70, 71, 517, 518, 519, 520, 521, 522, 523, 524, 546, 547, 548, 549, 550, 551] (by decide +kernel) (by decide +kernel)) (goodIn_sub (fun _ h => List.mem_append_left _ (List.mem_append_left _ (List.mem_append_right _ h))) (by decide +kernel))) (goodIn_sub (fun _ h => List.mem_append_left _ (List.mem_append_right _ h)) (by decide +kernel))
set_option maxRecDepth 20000 in
theorem gL_law_L_person : GoodIn wsL_law (va_wsS RL 90 yL_person wsL_person) := goodIn_app (goodIn_of _ (by decide +kernel)) ggL_law_L_person
set_option maxRecDepth 20000 in
theorem ggL_law_X5_person : GoodIn wsL_law wsX5_person := goodIn_r _ [75, 76, 27, 77, 78, 5, 79, 80, 81, 82, 83, 84, 525, 526, 527, 528, 529, 530, 531, 532, 533, 534, 535, 536, 537, 538, 539, 540, 541, 542, 543, 544, 545] (by decide +kernel) (by decide +kernel)
set_option maxRecDepth 20000 in
theorem gL_law_X5_person : GoodIn wsL_law (wsV RL 95 RX5 yX5_person wsX5_person) := goodIn_app (goodIn_of _ (by decide +kernel)) ggL_law_X5_person
set_option maxRecDepth 20000 in
theorem ggL_law_X5_thrown : GoodIn wsL_law wsX5_thrown := goodIn_r _ [88, 84, 525, 526, 527, 528, 529, 530, 531, 532, 533, 534, 535, 536, 537, 538, 539, 540, 541, 542, 543, 544, 545] (by decide +kernel) (by decide +kernel)
set_option maxRecDepth 20000 in
theorem gL_law_X5_thrown : GoodIn wsL_law (wsV RL 96 RX5 yX5_thrown wsX5_thrown) := goodIn_app (goodIn_of _ (by decide +kernel)) ggL_law_X5_thrown
set_option maxRecDepth 20000 in
theorem ggL_law_L_die : GoodIn wsL_law wsL_die := goodIn_ca (goodIn_ca (goodIn_r _ [91, 48, 49, 92, 93, 94, 2, 95, 54, 55, 96, 97, 98, 99, 100, 62, 63, 14, 546, 547, 548, 549, 550, 551, 517, 518, 519, 520, 521, 522, 523, 524] (by decide +kernel) (by decide +kernel)) (goodIn_sub (fun _ h => List.mem_append_left _ (List.mem_append_left _ (List.mem_append_right _ h))) (by decide +kernel))) (goodIn_sub (fun _ h => List.mem_append_left _ (List.mem_append_right _ h)) (by decide +kernel))
set_option maxRecDepth 20000 in
theorem gL_law_L_die : GoodIn wsL_law (va_wsS RL 100 yL_die wsL_die) := goodIn_app (goodIn_of _ (by decide +kernel)) ggL_law_L_die
set_option maxRecDepth 20000 in
theorem ggL_law_X5_die : GoodIn wsL_law wsX5_die := goodIn_r _ [104, 29, 105, 106, 107, 5, 108, 76, 77, 78, 79, 80, 81, 82, 83, 84, 525, 526, 527, 528, 529, 530, 531, 532, 533, 534, 535, 536, 537, 538, 539, 540, 541, 542, 543, 544, 545] (by decide +kernel) (by decide +kernel)
set_option maxRecDepth 20000 in
theorem gL_law_X5_die : GoodIn wsL_law (wsV RL 103 RX5 yX5_die wsX5_die) := goodIn_app (goodIn_of _ (by decide +kernel)) ggL_law_X5_die
set_option maxRecDepth 20000 in
theorem ggL_law_L_heir : GoodIn wsL_law wsL_heir := goodIn_ca (goodIn_ca (goodIn_ca (goodIn_r _ [111, 48, 112, 49, 113, 114, 115, 2, 116, 117, 118, 54, 55, 119, 120, 97, 98, 99, 100, 62, 63, 14, 121, 122, 123, 58, 124, 69, 546, 547, 548, 549, 550, 551, 517, 518, 519, 520, 521, 522, 523, 524] (by decide +kernel) (by decide +kernel)) (goodIn_sub (fun _ h => List.mem_append_right _ h) (by decide +kernel))) (goodIn_sub (fun _ h => List.mem_append_left _ (List.mem_append_left _ (List.mem_append_right _ h))) (by decide +kernel))) (goodIn_sub (fun _ h => List.mem_append_left _ (List.mem_append_right _ h)) (by decide +kernel))
set_option maxRecDepth 20000 in
theorem gL_law_L_heir : GoodIn wsL_law (va_wsS RL 104 yL_heir wsL_heir) := goodIn_app (goodIn_of _ (by decide +kernel)) ggL_law_L_heir
set_option maxRecDepth 20000 in
theorem ggL_law_X5_heir : GoodIn wsL_law wsX5_heir := goodIn_r _ [128, 30, 31, 105, 106, 107, 5, 108, 76, 77, 78, 79, 129, 130, 131, 132, 80, 81, 82, 83, 84, 525, 526, 527, 528, 529, 530, 531, 532, 533, 534, 535, 536, 537, 538, 539, 540, 541, 542, 543, 544, 545] (by decide +kernel) (by decide +kernel)
set_option maxRecDepth 20000 in
theorem gL_law_X5_heir : GoodIn wsL_law (wsV RL 107 RX5 yX5_heir wsX5_heir) := goodIn_app (goodIn_of _ (by decide +kernel)) ggL_law_X5_heir
set_option maxRecDepth 20000 in
theorem ggL_law_L_persecution : GoodIn wsL_law wsL_persecution := goodIn_ca (goodIn_ca (goodIn_ca (goodIn_r _ [135, 48, 112, 49, 136, 137, 138, 2, 139, 54, 55, 140, 16, 15, 141, 142, 59, 60, 61, 62, 63, 143, 144, 145, 146, 147, 148, 117, 118, 149, 150, 151, 152, 11, 12, 153, 154, 155, 156, 517, 518, 519, 520, 521, 522, 523, 524, 552, 553, 554, 555] (by decide +kernel) (by decide +kernel)) (goodIn_sub (fun _ h => List.mem_append_left _ (List.mem_append_left _ (List.mem_append_right _ h))) (by decide +kernel))) (goodIn_sub (fun _ h => List.mem_append_left _ (List.mem_append_right _ h)) (by decide +kernel))) (goodIn_sub (fun _ h => List.mem_append_right _ h) (by decide +kernel))
set_option maxRecDepth 20000 in
theorem gL_law_L_persecution : GoodIn wsL_law (va_wsS RL 108 yL_persecution wsL_persecution) := goodIn_app (goodIn_of _ (by decide +kernel)) ggL_law_L_persecution
set_option maxRecDepth 20000 in
theorem ggL_law_X5_persecution : GoodIn wsL_law wsX5_persecution := goodIn_r _ [160, 161, 32, 77, 78, 5, 79, 162, 163, 164, 80, 81, 82, 83, 84, 525, 526, 527, 528, 529, 530, 531, 532, 533, 534, 535, 536, 537, 538, 539, 540, 541, 542, 543, 544, 545] (by decide +kernel) (by decide +kernel)
set_option maxRecDepth 20000 in
theorem gL_law_X5_persecution : GoodIn wsL_law (wsV RL 111 RX5 yX5_persecution wsX5_persecution) := goodIn_app (goodIn_of _ (by decide +kernel)) ggL_law_X5_persecution
set_option maxRecDepth 20000 in
theorem ggL_law_L_faith : GoodIn wsL_law wsL_faith := goodIn_ca (goodIn_ca (goodIn_r _ [167, 48, 112, 168, 169, 170, 2, 171, 18, 143, 144, 145, 62, 63, 146, 147, 148, 117, 118, 517, 518, 519, 520, 521, 522, 523, 524] (by decide +kernel) (by decide +kernel)) (goodIn_sub (fun _ h => List.mem_append_left _ (List.mem_append_right _ h)) (by decide +kernel))) (goodIn_sub (fun _ h => List.mem_append_right _ h) (by decide +kernel))
set_option maxRecDepth 20000 in
theorem gL_law_L_faith : GoodIn wsL_law (va_wsS RL 112 yL_faith wsL_faith) := goodIn_app (goodIn_of _ (by decide +kernel)) ggL_law_L_faith
set_option maxRecDepth 20000 in
theorem ggL_law_X5_faith : GoodIn wsL_law wsX5_faith := goodIn_r _ [175, 33, 162, 163, 5, 164, 77, 78, 79, 80, 81, 82, 83, 84, 525, 526, 527, 528, 529, 530, 531, 532, 533, 534, 535, 536, 537, 538, 539, 540, 541, 542, 543, 544, 545] (by decide +kernel) (by decide +kernel)
set_option maxRecDepth 20000 in
theorem gL_law_X5_faith : GoodIn wsL_law (wsV RL 114 RX5 yX5_faith wsX5_faith) := goodIn_app (goodIn_of _ (by decide +kernel)) ggL_law_X5_faith
set_option maxRecDepth 20000 in
theorem ggL_law_L_now : GoodIn wsL_law wsL_now := goodIn_ca (goodIn_r _ [178, 112, 179, 180, 181, 2, 182, 19, 146, 147, 148, 117, 118, 517, 518, 519, 520, 521, 522, 523, 524] (by decide +kernel) (by decide +kernel)) (goodIn_sub (fun _ h => List.mem_append_right _ h) (by decide +kernel))
set_option maxRecDepth 20000 in
theorem gL_law_L_now : GoodIn wsL_law (va_wsS RL 115 yL_now wsL_now) := goodIn_app (goodIn_of _ (by decide +kernel)) ggL_law_L_now
set_option maxRecDepth 20000 in
theorem ggL_law_X5_now : GoodIn wsL_law wsX5_now := goodIn_r _ [186, 26, 77, 78, 5, 79, 80, 81, 82, 83, 84, 525, 526, 527, 528, 529, 530, 531, 532, 533, 534, 535, 536, 537, 538, 539, 540, 541, 542, 543, 544, 545] (by decide +kernel) (by decide +kernel)
set_option maxRecDepth 20000 in
theorem gL_law_X5_now : GoodIn wsL_law (wsV RL 117 RX5 yX5_now wsX5_now) := goodIn_app (goodIn_of _ (by decide +kernel)) ggL_law_X5_now
set_option maxRecDepth 20000 in
theorem ggL_law_L_thing : GoodIn wsL_law wsL_thing := goodIn_ca (goodIn_ca (goodIn_r _ [189, 112, 49, 190, 191, 192, 2, 193, 54, 55, 194, 195, 21, 20, 196, 197, 146, 147, 148, 117, 118, 198, 199, 200, 201, 11, 12, 202, 203, 204, 205, 517, 518, 519, 520, 521, 522, 523, 524, 556, 557, 558, 559, 560, 561] (by decide +kernel) (by decide +kernel)) (goodIn_sub (fun _ h => List.mem_append_left _ (List.mem_append_left _ (List.mem_append_right _ h))) (by decide +kernel))) (goodIn_sub (fun _ h => List.mem_append_right _ h) (by decide +kernel))
set_option maxRecDepth 20000 in
theorem gL_law_L_thing : GoodIn wsL_law (va_wsS RL 118 yL_thing wsL_thing) := goodIn_app (goodIn_of _ (by decide +kernel)) ggL_law_L_thing
set_option maxRecDepth 20000 in
theorem ggL_law_X5_thing : GoodIn wsL_law wsX5_thing := goodIn_r _ [209, 210, 211, 34, 35, 77, 78, 5, 79, 80, 81, 82, 83, 84, 525, 526, 527, 528, 529, 530, 531, 532, 533, 534, 535, 536, 537, 538, 539, 540, 541, 542, 543, 544, 545] (by decide +kernel) (by decide +kernel)
set_option maxRecDepth 20000 in
theorem gL_law_X5_thing : GoodIn wsL_law (wsV RL 120 RX5 yX5_thing wsX5_thing) := goodIn_app (goodIn_of _ (by decide +kernel)) ggL_law_X5_thing
set_option maxRecDepth 20000 in
theorem ggL_law_L_mark : GoodIn wsL_law wsL_mark := goodIn_ca (goodIn_ca (goodIn_r _ [214, 48, 112, 215, 216, 217, 2, 218, 219, 220, 221, 222, 223, 62, 63, 21, 146, 147, 148, 117, 118, 556, 557, 558, 559, 560, 561, 517, 518, 519, 520, 521, 522, 523, 524] (by decide +kernel) (by decide +kernel)) (goodIn_sub (fun _ h => List.mem_append_left _ (List.mem_append_right _ h)) (by decide +kernel))) (goodIn_sub (fun _ h => List.mem_append_right _ h) (by decide +kernel))
set_option maxRecDepth 20000 in
theorem gL_law_L_mark : GoodIn wsL_law (va_wsS RL 121 yL_mark wsL_mark) := goodIn_app (goodIn_of _ (by decide +kernel)) ggL_law_L_mark
set_option maxRecDepth 20000 in
theorem ggL_law_X5_mark : GoodIn wsL_law wsX5_mark := goodIn_r _ [227, 34, 228, 229, 230, 5, 231, 211, 77, 78, 79, 80, 81, 82, 83, 84, 525, 526, 527, 528, 529, 530, 531, 532, 533, 534, 535, 536, 537, 538, 539, 540, 541, 542, 543, 544, 545] (by decide +kernel) (by decide +kernel)
set_option maxRecDepth 20000 in
theorem gL_law_X5_mark : GoodIn wsL_law (wsV RL 124 RX5 yX5_mark wsX5_mark) := goodIn_app (goodIn_of _ (by decide +kernel)) ggL_law_X5_mark
set_option maxRecDepth 20000 in
theorem ggL_law_L_station : GoodIn wsL_law wsL_station := goodIn_ca (goodIn_ca (goodIn_ca (goodIn_r _ [234, 48, 112, 49, 235, 236, 237, 2, 238, 54, 55, 19, 239, 240, 241, 242, 243, 220, 221, 222, 223, 62, 63, 21, 97, 98, 99, 100, 14, 143, 144, 145, 146, 147, 148, 117, 118, 244, 245, 246, 247, 11, 12, 248, 249, 250, 251, 252, 253, 254, 255, 197, 256, 257, 258, 259, 260, 261, 517, 518, 519, 520, 521, 522, 523, 524, 556, 557, 558, 559, 560, 561, 562, 563, 564, 565, 566, 567, 568, 569, 570] (by decide +kernel) (by decide +kernel)) (goodIn_sub (fun _ h => List.mem_append_left _ (List.mem_append_left _ (List.mem_append_right _ h))) (by decide +kernel))) (goodIn_sub (fun _ h => List.mem_append_left _ (List.mem_append_right _ h)) (by decide +kernel))) (goodIn_sub (fun _ h => List.mem_append_right _ h) (by decide +kernel))
set_option maxRecDepth 20000 in
theorem gL_law_L_station : GoodIn wsL_law (va_wsS RL 125 yL_station wsL_station) := goodIn_app (goodIn_of _ (by decide +kernel)) ggL_law_L_station
set_option maxRecDepth 20000 in
theorem ggL_law_X5_station : GoodIn wsL_law wsX5_station := goodIn_r _ [265, 26, 36, 37, 38, 39, 40, 228, 229, 230, 5, 231, 211, 77, 78, 79, 105, 106, 107, 108, 76, 162, 163, 164, 80, 81, 82, 83, 84, 525, 526, 527, 528, 529, 530, 531, 532, 533, 534, 535, 536, 537, 538, 539, 540, 541, 542, 543, 544, 545] (by decide +kernel) (by decide +kernel)
set_option maxRecDepth 20000 in
theorem gL_law_X5_station : GoodIn wsL_law (wsV RL 128 RX5 yX5_station wsX5_station) := goodIn_app (goodIn_of _ (by decide +kernel)) ggL_law_X5_station
set_option maxRecDepth 20000 in
theorem ggL_law_L_rebut : GoodIn wsL_law wsL_rebut := goodIn_ca (goodIn_ca (goodIn_r _ [268, 48, 112, 269, 270, 271, 2, 272, 117, 118, 273, 274, 275, 276, 277, 278, 62, 63, 243, 220, 221, 222, 223, 21, 562, 563, 564, 565, 566, 567, 568, 569, 570, 556, 557, 558, 559, 560, 561, 517, 518, 519, 520, 521, 522, 523, 524] (by decide +kernel) (by decide +kernel)) (goodIn_sub (fun _ h => List.mem_append_right _ h) (by decide +kernel))) (goodIn_sub (fun _ h => List.mem_append_left _ (List.mem_append_right _ h)) (by decide +kernel))
set_option maxRecDepth 20000 in
theorem gL_law_L_rebut : GoodIn wsL_law (va_wsS RL 129 yL_rebut wsL_rebut) := goodIn_app (goodIn_of _ (by decide +kernel)) ggL_law_L_rebut
set_option maxRecDepth 20000 in
theorem ggL_law_X5_rebut : GoodIn wsL_law wsX5_rebut := goodIn_r _ [282, 38, 41, 283, 284, 285, 5, 286, 36, 228, 229, 230, 231, 211, 77, 78, 79, 80, 81, 82, 83, 84, 525, 526, 527, 528, 529, 530, 531, 532, 533, 534, 535, 536, 537, 538, 539, 540, 541, 542, 543, 544, 545] (by decide +kernel) (by decide +kernel)
set_option maxRecDepth 20000 in
theorem gL_law_X5_rebut : GoodIn wsL_law (wsV RL 131 RX5 yX5_rebut wsX5_rebut) := goodIn_app (goodIn_of _ (by decide +kernel)) ggL_law_X5_rebut
set_option maxRecDepth 20000 in
theorem ggL_law_L_settle : GoodIn wsL_law wsL_settle := goodIn_ca (goodIn_r _ [289, 48, 290, 291, 292, 2, 293, 294, 275, 276, 277, 278, 62, 63, 243, 220, 221, 222, 223, 21, 562, 563, 564, 565, 566, 567, 568, 569, 570, 556, 557, 558, 559, 560, 561, 517, 518, 519, 520, 521, 522, 523, 524] (by decide +kernel) (by decide +kernel)) (goodIn_sub (fun _ h => List.mem_append_left _ (List.mem_append_right _ h)) (by decide +kernel))
set_option maxRecDepth 20000 in
theorem gL_law_L_settle : GoodIn wsL_law (va_wsS RL 132 yL_settle wsL_settle) := goodIn_app (goodIn_of _ (by decide +kernel)) ggL_law_L_settle
set_option maxRecDepth 20000 in
theorem ggL_law_X5_settle : GoodIn wsL_law wsX5_settle := goodIn_r _ [298, 42, 283, 284, 285, 5, 286, 36, 228, 229, 230, 231, 211, 77, 78, 79, 80, 81, 82, 83, 84, 525, 526, 527, 528, 529, 530, 531, 532, 533, 534, 535, 536, 537, 538, 539, 540, 541, 542, 543, 544, 545] (by decide +kernel) (by decide +kernel)
set_option maxRecDepth 20000 in
theorem gL_law_X5_settle : GoodIn wsL_law (wsV RL 134 RX5 yX5_settle wsX5_settle) := goodIn_app (goodIn_of _ (by decide +kernel)) ggL_law_X5_settle
set_option maxRecDepth 20000 in
theorem ggL_law_L_isPersecuted : GoodIn wsL_law wsL_isPersecuted := goodIn_ca (goodIn_ca (goodIn_r _ [301, 48, 112, 302, 303, 304, 2, 305, 97, 98, 99, 100, 62, 63, 14, 143, 144, 145, 146, 147, 148, 117, 118, 306, 307, 308, 309, 16, 310, 311, 312, 313, 142, 314, 153, 154, 155, 156, 517, 518, 519, 520, 521, 522, 523, 524, 546, 547, 548, 549, 550, 551, 552, 553, 554, 555] (by decide +kernel) (by decide +kernel)) (goodIn_sub (fun _ h => List.mem_append_left _ (List.mem_append_right _ h)) (by decide +kernel))) (goodIn_sub (fun _ h => List.mem_append_right _ h) (by decide +kernel))
set_option maxRecDepth 20000 in
theorem gL_law_L_isPersecuted : GoodIn wsL_law (va_wsS RL 135 yL_isPersecuted wsL_isPersecuted) := goodIn_app (goodIn_of _ (by decide +kernel)) ggL_law_L_isPersecuted
set_option maxRecDepth 20000 in
theorem ggL_law_X5_isPersecuted : GoodIn wsL_law wsX5_isPersecuted := goodIn_r _ [318, 27, 105, 106, 107, 5, 108, 76, 77, 78, 79, 162, 163, 164, 80, 81, 82, 83, 84, 319, 320, 321, 322, 161, 32, 525, 526, 527, 528, 529, 530, 531, 532, 533, 534, 535, 536, 537, 538, 539, 540, 541, 542, 543, 544, 545] (by decide +kernel) (by decide +kernel)
set_option maxRecDepth 20000 in
theorem gL_law_X5_isPersecuted : GoodIn wsL_law (wsV RL 138 RX5 yX5_isPersecuted wsX5_isPersecuted) := goodIn_app (goodIn_of _ (by decide +kernel)) ggL_law_X5_isPersecuted
set_option maxRecDepth 20000 in
theorem ggL_law_L_heirOf : GoodIn wsL_law wsL_heirOf := goodIn_ca (goodIn_r _ [325, 48, 326, 327, 328, 2, 329, 97, 98, 99, 100, 62, 63, 14, 330, 331, 332, 120, 333, 334, 335, 96, 336, 337, 338, 339, 517, 518, 519, 520, 521, 522, 523, 524, 546, 547, 548, 549, 550, 551] (by decide +kernel) (by decide +kernel)) (goodIn_sub (fun _ h => List.mem_append_left _ (List.mem_append_right _ h)) (by decide +kernel))
set_option maxRecDepth 20000 in
theorem gL_law_L_heirOf : GoodIn wsL_law (va_wsS RL 139 yL_heirOf wsL_heirOf) := goodIn_app (goodIn_of _ (by decide +kernel)) ggL_law_L_heirOf
set_option maxRecDepth 20000 in
theorem ggL_law_X5_heirOf : GoodIn wsL_law wsX5_heirOf := goodIn_r _ [343, 105, 106, 107, 5, 108, 76, 77, 78, 79, 80, 81, 82, 83, 84, 344, 345, 346, 347, 31, 30, 29, 348, 349, 350, 351, 352, 353, 354, 355, 525, 526, 527, 528, 529, 530, 531, 532, 533, 534, 535, 536, 537, 538, 539, 540, 541, 542, 543, 544, 545] (by decide +kernel) (by decide +kernel)
set_option maxRecDepth 20000 in
theorem gL_law_X5_heirOf : GoodIn wsL_law (wsV RL 141 RX5 yX5_heirOf wsX5_heirOf) := goodIn_app (goodIn_of _ (by decide +kernel)) ggL_law_X5_heirOf
set_option maxRecDepth 20000 in
theorem ggL_law_L_likeness : GoodIn wsL_law wsL_likeness := goodIn_ca (goodIn_r _ [358, 48, 359, 360, 361, 2, 362, 220, 221, 222, 223, 62, 63, 21, 363, 364, 365, 197, 366, 204, 205, 367, 368, 369, 370, 371, 372, 373, 374, 375, 376, 377, 517, 518, 519, 520, 521, 522, 523, 524, 556, 557, 558, 559, 560, 561] (by decide +kernel) (by decide +kernel)) (goodIn_sub (fun _ h => List.mem_append_left _ (List.mem_append_right _ h)) (by decide +kernel))
set_option maxRecDepth 20000 in
theorem gL_law_L_likeness : GoodIn wsL_law (va_wsS RL 142 yL_likeness wsL_likeness) := goodIn_app (goodIn_of _ (by decide +kernel)) ggL_law_L_likeness
set_option maxRecDepth 20000 in
theorem ggL_law_X5_likeness : GoodIn wsL_law wsX5_likeness := goodIn_r _ [381, 228, 229, 230, 5, 231, 211, 77, 78, 79, 80, 81, 82, 83, 84, 382, 383, 384, 385, 35, 34, 386, 387, 388, 525, 526, 527, 528, 529, 530, 531, 532, 533, 534, 535, 536, 537, 538, 539, 540, 541, 542, 543, 544, 545] (by decide +kernel) (by decide +kernel)
set_option maxRecDepth 20000 in
theorem gL_law_X5_likeness : GoodIn wsL_law (wsV RL 144 RX5 yX5_likeness wsX5_likeness) := goodIn_app (goodIn_of _ (by decide +kernel)) ggL_law_X5_likeness
set_option maxRecDepth 20000 in
theorem ggL_law_L_likest : GoodIn wsL_law wsL_likest := goodIn_ca (goodIn_r _ [391, 48, 392, 393, 394, 2, 395, 21, 220, 221, 222, 223, 62, 63, 363, 364, 365, 197, 366, 204, 205, 367, 368, 369, 370, 371, 372, 373, 374, 375, 376, 377, 517, 518, 519, 520, 521, 522, 523, 524, 556, 557, 558, 559, 560, 561] (by decide +kernel) (by decide +kernel)) (goodIn_sub (fun _ h => List.mem_append_left _ (List.mem_append_right _ h)) (by decide +kernel))
set_option maxRecDepth 20000 in
theorem gL_law_L_likest : GoodIn wsL_law (va_wsS RL 145 yL_likest wsL_likest) := goodIn_app (goodIn_of _ (by decide +kernel)) ggL_law_L_likest
set_option maxRecDepth 20000 in
theorem ggL_law_X5_likest : GoodIn wsL_law wsX5_likest := goodIn_r _ [399, 211, 228, 229, 230, 5, 231, 77, 78, 79, 80, 81, 82, 83, 84, 382, 383, 384, 385, 35, 34, 386, 387, 388, 525, 526, 527, 528, 529, 530, 531, 532, 533, 534, 535, 536, 537, 538, 539, 540, 541, 542, 543, 544, 545] (by decide +kernel) (by decide +kernel)
set_option maxRecDepth 20000 in
theorem gL_law_X5_likest : GoodIn wsL_law (wsV RL 147 RX5 yX5_likest wsX5_likest) := goodIn_app (goodIn_of _ (by decide +kernel)) ggL_law_X5_likest
set_option maxRecDepth 20000 in
theorem ggL_law_L_stationAt : GoodIn wsL_law wsL_stationAt := goodIn_ca (goodIn_r _ [402, 48, 403, 404, 405, 2, 406, 62, 63, 407, 408, 409, 220, 221, 222, 223, 21, 556, 557, 558, 559, 560, 561, 562, 563, 564, 565, 566, 567, 568, 569, 570, 517, 518, 519, 520, 521, 522, 523, 524] (by decide +kernel) (by decide +kernel)) (goodIn_sub (fun _ h => List.mem_append_left _ (List.mem_append_right _ h)) (by decide +kernel))
set_option maxRecDepth 20000 in
theorem gL_law_L_stationAt : GoodIn wsL_law (va_wsS RL 148 yL_stationAt wsL_stationAt) := goodIn_app (goodIn_of _ (by decide +kernel)) ggL_law_L_stationAt
set_option maxRecDepth 20000 in
theorem ggL_law_X5_stationAt : GoodIn wsL_law wsX5_stationAt := goodIn_r _ [413, 43, 228, 229, 230, 5, 231, 211, 77, 78, 79, 80, 81, 82, 83, 84, 414, 415, 416, 417, 36, 40, 525, 526, 527, 528, 529, 530, 531, 532, 533, 534, 535, 536, 537, 538, 539, 540, 541, 542, 543, 544, 545] (by decide +kernel) (by decide +kernel)
set_option maxRecDepth 20000 in
theorem gL_law_X5_stationAt : GoodIn wsL_law (wsV RL 150 RX5 yX5_stationAt wsX5_stationAt) := goodIn_app (goodIn_of _ (by decide +kernel)) ggL_law_X5_stationAt
set_option maxRecDepth 20000 in
theorem ggL_law_L_isLoss : GoodIn wsL_law wsL_isLoss := goodIn_ca (goodIn_r _ [420, 48, 421, 422, 423, 2, 424, 275, 276, 277, 278, 62, 63, 243, 220, 221, 222, 223, 21, 425, 426, 427, 428, 429, 273, 274, 430, 431, 432, 306, 307, 308, 309, 16, 310, 311, 312, 313, 142, 314, 153, 154, 155, 156, 556, 557, 558, 559, 560, 561, 517, 518, 519, 520, 521, 522, 523, 524, 562, 563, 564, 565, 566, 567, 568, 569, 570, 546, 547, 548, 549, 550, 551, 552, 553, 554, 555] (by decide +kernel) (by decide +kernel)) (goodIn_sub (fun _ h => List.mem_append_left _ (List.mem_append_right _ h)) (by decide +kernel))
set_option maxRecDepth 20000 in
theorem gL_law_L_isLoss : GoodIn wsL_law (va_wsS RL 151 yL_isLoss wsL_isLoss) := goodIn_app (goodIn_of _ (by decide +kernel)) ggL_law_L_isLoss
set_option maxRecDepth 20000 in
theorem ggL_law_X5_isLoss : GoodIn wsL_law wsX5_isLoss := goodIn_r _ [436, 43, 283, 284, 285, 5, 286, 36, 228, 229, 230, 231, 211, 77, 78, 79, 80, 81, 82, 83, 84, 414, 415, 416, 417, 40, 437, 438, 439, 440, 37, 38, 41, 27, 39, 319, 320, 321, 322, 161, 32, 525, 526, 527, 528, 529, 530, 531, 532, 533, 534, 535, 536, 537, 538, 539, 540, 541, 542, 543, 544, 545] (by decide +kernel) (by decide +kernel)
set_option maxRecDepth 20000 in
theorem gL_law_X5_isLoss : GoodIn wsL_law (wsV RL 153 RX5 yX5_isLoss wsX5_isLoss) := goodIn_app (goodIn_of _ (by decide +kernel)) ggL_law_X5_isLoss
set_option maxRecDepth 20000 in
theorem ggL_law_L_holder : GoodIn wsL_law wsL_holder := goodIn_ca (goodIn_r _ [443, 48, 444, 445, 446, 2, 447, 220, 221, 222, 223, 62, 63, 21, 448, 449, 450, 197, 451, 257, 452, 336, 337, 338, 339, 517, 518, 519, 520, 521, 522, 523, 524, 556, 557, 558, 559, 560, 561, 562, 563, 564, 565, 566, 567, 568, 569, 570, 546, 547, 548, 549, 550, 551] (by decide +kernel) (by decide +kernel)) (goodIn_sub (fun _ h => List.mem_append_left _ (List.mem_append_right _ h)) (by decide +kernel))
set_option maxRecDepth 20000 in
theorem gL_law_L_holder : GoodIn wsL_law (va_wsS RL 154 yL_holder wsL_holder) := goodIn_app (goodIn_of _ (by decide +kernel)) ggL_law_L_holder
set_option maxRecDepth 20000 in
theorem ggL_law_X5_holder : GoodIn wsL_law wsX5_holder := goodIn_r _ [456, 228, 229, 230, 5, 231, 211, 77, 78, 79, 80, 81, 82, 83, 84, 457, 458, 459, 460, 37, 43, 414, 415, 416, 417, 36, 40, 525, 526, 527, 528, 529, 530, 531, 532, 533, 534, 535, 536, 537, 538, 539, 540, 541, 542, 543, 544, 545] (by decide +kernel) (by decide +kernel)
set_option maxRecDepth 20000 in
theorem gL_law_X5_holder : GoodIn wsL_law (wsV RL 156 RX5 yX5_holder wsX5_holder) := goodIn_app (goodIn_of _ (by decide +kernel)) ggL_law_X5_holder
set_option maxRecDepth 20000 in
theorem ggL_law_L_owner : GoodIn wsL_law wsL_owner := goodIn_ca (goodIn_r _ [463, 48, 464, 465, 466, 2, 467, 220, 221, 222, 223, 62, 63, 21, 468, 469, 470, 471, 407, 430, 408, 472, 473, 474, 475, 294, 429, 425, 426, 427, 428, 273, 274, 431, 432, 306, 307, 308, 309, 16, 310, 311, 312, 313, 142, 314, 153, 154, 155, 156, 476, 477, 478, 479, 18, 19, 333, 334, 335, 96, 330, 331, 332, 120, 336, 337, 338, 339, 517, 518, 519, 520, 521, 522, 523, 524, 556, 557, 558, 559, 560, 561, 562, 563, 564, 565, 566, 567, 568, 569, 570, 546, 547, 548, 549, 550, 551, 552, 553, 554, 555] (by decide +kernel) (by decide +kernel)) (goodIn_sub (fun _ h => List.mem_append_left _ (List.mem_append_right _ h)) (by decide +kernel))
set_option maxRecDepth 20000 in
theorem gL_law_L_owner : GoodIn wsL_law (va_wsS RL 157 yL_owner wsL_owner) := goodIn_app (goodIn_of _ (by decide +kernel)) ggL_law_L_owner
set_option maxRecDepth 20000 in
theorem ggL_law_X5_owner : GoodIn wsL_law wsX5_owner := goodIn_r _ [483, 228, 229, 230, 5, 231, 211, 77, 78, 79, 80, 81, 82, 83, 84, 484, 485, 486, 487, 37, 43, 40, 26, 38, 33, 39, 42, 29, 414, 415, 416, 417, 36, 437, 438, 439, 440, 41, 27, 319, 320, 321, 322, 161, 32, 344, 345, 346, 347, 31, 30, 348, 349, 350, 351, 352, 353, 354, 355, 525, 526, 527, 528, 529, 530, 531, 532, 533, 534, 535, 536, 537, 538, 539, 540, 541, 542, 543, 544, 545] (by decide +kernel) (by decide +kernel)
set_option maxRecDepth 20000 in
theorem gL_law_X5_owner : GoodIn wsL_law (wsV RL 159 RX5 yX5_owner wsX5_owner) := goodIn_app (goodIn_of _ (by decide +kernel)) ggL_law_X5_owner
set_option maxRecDepth 20000 in
theorem ggL_law_L_ownerAnew : GoodIn wsL_law wsL_ownerAnew := goodIn_ca (goodIn_r _ [490, 48, 491, 492, 493, 2, 494, 220, 221, 222, 223, 62, 63, 21, 495, 496, 497, 498, 499, 430, 500, 429, 294, 425, 426, 427, 428, 273, 274, 431, 432, 306, 307, 308, 309, 16, 310, 311, 312, 313, 142, 314, 153, 154, 155, 156, 476, 477, 478, 479, 18, 408, 19, 333, 334, 335, 96, 330, 331, 332, 120, 336, 337, 338, 339, 517, 518, 519, 520, 521, 522, 523, 524, 556, 557, 558, 559, 560, 561, 562, 563, 564, 565, 566, 567, 568, 569, 570, 546, 547, 548, 549, 550, 551, 552, 553, 554, 555] (by decide +kernel) (by decide +kernel)) (goodIn_sub (fun _ h => List.mem_append_left _ (List.mem_append_right _ h)) (by decide +kernel))
set_option maxRecDepth 20000 in
theorem gL_law_L_ownerAnew : GoodIn wsL_law (va_wsS RL 160 yL_ownerAnew wsL_ownerAnew) := goodIn_app (goodIn_of _ (by decide +kernel)) ggL_law_L_ownerAnew
set_option maxRecDepth 20000 in
theorem ggL_law_X5_ownerAnew : GoodIn wsL_law wsX5_ownerAnew := goodIn_r _ [504, 505, 481, 482, 5, 483, 228, 229, 230, 231, 211, 77, 78, 79, 80, 81, 82, 83, 84, 484, 485, 486, 487, 37, 43, 40, 26, 38, 33, 39, 42, 29, 414, 415, 416, 417, 36, 437, 438, 439, 440, 41, 27, 319, 320, 321, 322, 161, 32, 344, 345, 346, 347, 31, 30, 348, 349, 350, 351, 352, 353, 354, 355, 525, 526, 527, 528, 529, 530, 531, 532, 533, 534, 535, 536, 537, 538, 539, 540, 541, 542, 543, 544, 545] (by decide +kernel) (by decide +kernel)
set_option maxRecDepth 20000 in
theorem gL_law_X5_ownerAnew : GoodIn wsL_law (wsV RL 162 RX5 yX5_ownerAnew wsX5_ownerAnew) := goodIn_app (goodIn_of _ (by decide +kernel)) ggL_law_X5_ownerAnew
set_option maxRecDepth 20000 in
theorem ggL_law_L_asks : GoodIn wsL_law wsL_asks := goodIn_ca (goodIn_r _ [508, 48, 509, 510, 511, 2, 512, 21, 97, 98, 99, 100, 62, 63, 14, 448, 449, 450, 197, 451, 257, 452, 468, 469, 470, 471, 407, 430, 408, 472, 473, 474, 475, 294, 429, 425, 426, 427, 428, 273, 274, 431, 432, 306, 307, 308, 309, 16, 310, 311, 312, 313, 142, 314, 153, 154, 155, 156, 476, 477, 478, 479, 18, 19, 333, 334, 335, 96, 330, 331, 332, 120, 517, 518, 519, 520, 521, 522, 523, 524, 556, 557, 558, 559, 560, 561, 562, 563, 564, 565, 566, 567, 568, 569, 570, 546, 547, 548, 549, 550, 551, 552, 553, 554, 555] (by decide +kernel) (by decide +kernel)) (goodIn_sub (fun _ h => List.mem_append_left _ (List.mem_append_right _ h)) (by decide +kernel))
set_option maxRecDepth 20000 in
theorem gL_law_L_asks : GoodIn wsL_law (va_wsS RL 163 yL_asks wsL_asks) := goodIn_app (goodIn_of _ (by decide +kernel)) ggL_law_L_asks
set_option maxRecDepth 20000 in
theorem ggL_law_X5_asks : GoodIn wsL_law wsX5_asks := goodIn_r _ [516, 211, 105, 106, 107, 5, 108, 76, 77, 78, 79, 80, 81, 82, 83, 84, 484, 485, 486, 487, 37, 43, 40, 26, 38, 33, 39, 42, 29, 414, 415, 416, 417, 36, 437, 438, 439, 440, 41, 27, 319, 320, 321, 322, 161, 32, 344, 345, 346, 347, 31, 30, 348, 349, 350, 351, 352, 353, 354, 355, 457, 458, 459, 460, 525, 526, 527, 528, 529, 530, 531, 532, 533, 534, 535, 536, 537, 538, 539, 540, 541, 542, 543, 544, 545] (by decide +kernel) (by decide +kernel)
set_option maxRecDepth 20000 in
theorem gL_law_X5_asks : GoodIn wsL_law (wsV RL 165 RX5 yX5_asks wsX5_asks) := goodIn_app (goodIn_of _ (by decide +kernel)) ggL_law_X5_asks
theorem dL_law_0 : decode cL_law 0 = .ok (.new 8, 3) := by decide +kernel
theorem dL_law_3 : decode cL_law 3 = .ok (.dup, 1) := by decide +kernel
theorem dL_law_4 : decode cL_law 4 = .ok (.invokespecial 86, 3) := by decide +kernel
theorem dL_law_7 : decode cL_law 7 = .ok (.astore_n 1, 1) := by decide +kernel
theorem dL_law_8 : decode cL_law 8 = .ok (.new 87, 3) := by decide +kernel
theorem dL_law_11 : decode cL_law 11 = .ok (.dup, 1) := by decide +kernel
theorem dL_law_12 : decode cL_law 12 = .ok (.invokespecial 89, 3) := by decide +kernel
theorem dL_law_15 : decode cL_law 15 = .ok (.astore_n 2, 1) := by decide +kernel
theorem dL_law_16 : decode cL_law 16 = .ok (.iconst 1, 1) := by decide +kernel
theorem dL_law_17 : decode cL_law 17 = .ok (.newarray .long, 2) := by decide +kernel
theorem dL_law_19 : decode cL_law 19 = .ok (.astore_n 3, 1) := by decide +kernel
theorem dL_law_20 : decode cL_law 20 = .ok (.iconst 0, 1) := by decide +kernel
theorem dL_law_21 : decode cL_law 21 = .ok (.istore 4, 2) := by decide +kernel
theorem dL_law_23 : decode cL_law 23 = .ok (.iload 4, 2) := by decide +kernel
theorem dL_law_25 : decode cL_law 25 = .ok (.aload_n 0, 1) := by decide +kernel
theorem dL_law_26 : decode cL_law 26 = .ok (.arraylength, 1) := by decide +kernel
theorem dL_law_27 : decode cL_law 27 = .ok (.bipush 6, 2) := by decide +kernel
theorem dL_law_29 : decode cL_law 29 = .ok (.isub, 1) := by decide +kernel
theorem dL_law_30 : decode cL_law 30 = .ok (.if_icmp .gt 1607, 3) := by decide +kernel
theorem dL_law_33 : decode cL_law 33 = .ok (.aload_n 0, 1) := by decide +kernel
theorem dL_law_34 : decode cL_law 34 = .ok (.iload 4, 2) := by decide +kernel
theorem dL_law_36 : decode cL_law 36 = .ok (.iaload, 1) := by decide +kernel
theorem dL_law_37 : decode cL_law 37 = .ok (.bipush 31, 2) := by decide +kernel
theorem dL_law_39 : decode cL_law 39 = .ok (.iand, 1) := by decide +kernel
theorem dL_law_40 : decode cL_law 40 = .ok (.tableswitch 1591 0 20 #[100, 156, 192, 260, 352, 420, 476, 544, 647, 751, 854, 957, 1044, 1100, 1168, 1224, 1292, 1367, 1423, 1479, 1535], 100) := by decide +kernel
theorem dL_law_140 : decode cL_law 140 = .ok (.aload_n 1, 1) := by decide +kernel
theorem dL_law_141 : decode cL_law 141 = .ok (.aload_n 0, 1) := by decide +kernel
theorem dL_law_142 : decode cL_law 142 = .ok (.iload 4, 2) := by decide +kernel
theorem dL_law_144 : decode cL_law 144 = .ok (.iconst 1, 1) := by decide +kernel
theorem dL_law_145 : decode cL_law 145 = .ok (.iadd, 1) := by decide +kernel
theorem dL_law_146 : decode cL_law 146 = .ok (.iaload, 1) := by decide +kernel
theorem dL_law_147 : decode cL_law 147 = .ok (.aload_n 3, 1) := by decide +kernel
theorem dL_law_148 : decode cL_law 148 = .ok (.invokestatic 90, 3) := by decide +kernel
theorem dL_law_151 : decode cL_law 151 = .ok (.istore 5, 2) := by decide +kernel
theorem dL_law_153 : decode cL_law 153 = .ok (.aload_n 2, 1) := by decide +kernel
theorem dL_law_154 : decode cL_law 154 = .ok (.aload_n 0, 1) := by decide +kernel
theorem dL_law_155 : decode cL_law 155 = .ok (.iload 4, 2) := by decide +kernel
theorem dL_law_157 : decode cL_law 157 = .ok (.iconst 1, 1) := by decide +kernel
theorem dL_law_158 : decode cL_law 158 = .ok (.iadd, 1) := by decide +kernel
theorem dL_law_159 : decode cL_law 159 = .ok (.iaload, 1) := by decide +kernel
theorem dL_law_160 : decode cL_law 160 = .ok (.invokevirtual 95, 3) := by decide +kernel
end
section
theorem dL_law_163 : decode cL_law 163 = .ok (.istore 6, 2) := by decide +kernel
theorem dL_law_165 : decode cL_law 165 = .ok (.aload_n 2, 1) := by decide +kernel
theorem dL_law_166 : decode cL_law 166 = .ok (.invokevirtual 96, 3) := by decide +kernel
theorem dL_law_169 : decode cL_law 169 = .ok (.iload 5, 2) := by decide +kernel
theorem dL_law_171 : decode cL_law 171 = .ok (.if_icmp .eq 5, 3) := by decide +kernel
theorem dL_law_174 : decode cL_law 174 = .ok (.iconst 0, 1) := by decide +kernel
theorem dL_law_175 : decode cL_law 175 = .ok (.ireturn, 1) := by decide +kernel
theorem dL_law_176 : decode cL_law 176 = .ok (.iload 5, 2) := by decide +kernel
theorem dL_law_178 : decode cL_law 178 = .ok (.ifCond .ne 15, 3) := by decide +kernel
theorem dL_law_181 : decode cL_law 181 = .ok (.aload_n 3, 1) := by decide +kernel
theorem dL_law_182 : decode cL_law 182 = .ok (.iconst 0, 1) := by decide +kernel
theorem dL_law_183 : decode cL_law 183 = .ok (.laload, 1) := by decide +kernel
theorem dL_law_184 : decode cL_law 184 = .ok (.iload 6, 2) := by decide +kernel
theorem dL_law_186 : decode cL_law 186 = .ok (.i2l, 1) := by decide +kernel
theorem dL_law_187 : decode cL_law 187 = .ok (.lcmp, 1) := by decide +kernel
theorem dL_law_188 : decode cL_law 188 = .ok (.ifCond .eq 5, 3) := by decide +kernel
theorem dL_law_191 : decode cL_law 191 = .ok (.iconst 0, 1) := by decide +kernel
theorem dL_law_192 : decode cL_law 192 = .ok (.ireturn, 1) := by decide +kernel
theorem dL_law_193 : decode cL_law 193 = .ok (.goto 1438, 3) := by decide +kernel
theorem dL_law_196 : decode cL_law 196 = .ok (.aload_n 1, 1) := by decide +kernel
theorem dL_law_197 : decode cL_law 197 = .ok (.aload_n 0, 1) := by decide +kernel
theorem dL_law_198 : decode cL_law 198 = .ok (.iload 4, 2) := by decide +kernel
theorem dL_law_200 : decode cL_law 200 = .ok (.iconst 1, 1) := by decide +kernel
theorem dL_law_201 : decode cL_law 201 = .ok (.iadd, 1) := by decide +kernel
theorem dL_law_202 : decode cL_law 202 = .ok (.iaload, 1) := by decide +kernel
theorem dL_law_203 : decode cL_law 203 = .ok (.invokestatic 100, 3) := by decide +kernel
theorem dL_law_206 : decode cL_law 206 = .ok (.istore 5, 2) := by decide +kernel
theorem dL_law_208 : decode cL_law 208 = .ok (.aload_n 2, 1) := by decide +kernel
theorem dL_law_209 : decode cL_law 209 = .ok (.aload_n 0, 1) := by decide +kernel
theorem dL_law_210 : decode cL_law 210 = .ok (.iload 4, 2) := by decide +kernel
theorem dL_law_212 : decode cL_law 212 = .ok (.iconst 1, 1) := by decide +kernel
theorem dL_law_213 : decode cL_law 213 = .ok (.iadd, 1) := by decide +kernel
theorem dL_law_214 : decode cL_law 214 = .ok (.iaload, 1) := by decide +kernel
theorem dL_law_215 : decode cL_law 215 = .ok (.invokevirtual 103, 3) := by decide +kernel
theorem dL_law_218 : decode cL_law 218 = .ok (.aload_n 2, 1) := by decide +kernel
theorem dL_law_219 : decode cL_law 219 = .ok (.invokevirtual 96, 3) := by decide +kernel
theorem dL_law_222 : decode cL_law 222 = .ok (.iload 5, 2) := by decide +kernel
theorem dL_law_224 : decode cL_law 224 = .ok (.if_icmp .eq 5, 3) := by decide +kernel
theorem dL_law_227 : decode cL_law 227 = .ok (.iconst 0, 1) := by decide +kernel
theorem dL_law_228 : decode cL_law 228 = .ok (.ireturn, 1) := by decide +kernel
theorem dL_law_229 : decode cL_law 229 = .ok (.goto 1402, 3) := by decide +kernel
theorem dL_law_232 : decode cL_law 232 = .ok (.aload_n 1, 1) := by decide +kernel
theorem dL_law_233 : decode cL_law 233 = .ok (.aload_n 0, 1) := by decide +kernel
theorem dL_law_234 : decode cL_law 234 = .ok (.iload 4, 2) := by decide +kernel
theorem dL_law_236 : decode cL_law 236 = .ok (.iconst 1, 1) := by decide +kernel
theorem dL_law_237 : decode cL_law 237 = .ok (.iadd, 1) := by decide +kernel
theorem dL_law_238 : decode cL_law 238 = .ok (.iaload, 1) := by decide +kernel
theorem dL_law_239 : decode cL_law 239 = .ok (.aload_n 0, 1) := by decide +kernel
theorem dL_law_240 : decode cL_law 240 = .ok (.iload 4, 2) := by decide +kernel
theorem dL_law_242 : decode cL_law 242 = .ok (.iconst 2, 1) := by decide +kernel
theorem dL_law_243 : decode cL_law 243 = .ok (.iadd, 1) := by decide +kernel
theorem dL_law_244 : decode cL_law 244 = .ok (.iaload, 1) := by decide +kernel
theorem dL_law_245 : decode cL_law 245 = .ok (.aload_n 3, 1) := by decide +kernel
theorem dL_law_246 : decode cL_law 246 = .ok (.invokestatic 104, 3) := by decide +kernel
theorem dL_law_249 : decode cL_law 249 = .ok (.istore 5, 2) := by decide +kernel
theorem dL_law_251 : decode cL_law 251 = .ok (.aload_n 2, 1) := by decide +kernel
theorem dL_law_252 : decode cL_law 252 = .ok (.aload_n 0, 1) := by decide +kernel
theorem dL_law_253 : decode cL_law 253 = .ok (.iload 4, 2) := by decide +kernel
theorem dL_law_255 : decode cL_law 255 = .ok (.iconst 1, 1) := by decide +kernel
theorem dL_law_256 : decode cL_law 256 = .ok (.iadd, 1) := by decide +kernel
theorem dL_law_257 : decode cL_law 257 = .ok (.iaload, 1) := by decide +kernel
theorem dL_law_258 : decode cL_law 258 = .ok (.aload_n 0, 1) := by decide +kernel
theorem dL_law_259 : decode cL_law 259 = .ok (.iload 4, 2) := by decide +kernel
theorem dL_law_261 : decode cL_law 261 = .ok (.iconst 2, 1) := by decide +kernel
theorem dL_law_262 : decode cL_law 262 = .ok (.iadd, 1) := by decide +kernel
theorem dL_law_263 : decode cL_law 263 = .ok (.iaload, 1) := by decide +kernel
theorem dL_law_264 : decode cL_law 264 = .ok (.invokevirtual 107, 3) := by decide +kernel
theorem dL_law_267 : decode cL_law 267 = .ok (.istore 6, 2) := by decide +kernel
theorem dL_law_269 : decode cL_law 269 = .ok (.aload_n 2, 1) := by decide +kernel
theorem dL_law_270 : decode cL_law 270 = .ok (.invokevirtual 96, 3) := by decide +kernel
theorem dL_law_273 : decode cL_law 273 = .ok (.iload 5, 2) := by decide +kernel
theorem dL_law_275 : decode cL_law 275 = .ok (.if_icmp .eq 5, 3) := by decide +kernel
theorem dL_law_278 : decode cL_law 278 = .ok (.iconst 0, 1) := by decide +kernel
theorem dL_law_279 : decode cL_law 279 = .ok (.ireturn, 1) := by decide +kernel
theorem dL_law_280 : decode cL_law 280 = .ok (.iload 5, 2) := by decide +kernel
theorem dL_law_282 : decode cL_law 282 = .ok (.ifCond .ne 15, 3) := by decide +kernel
theorem dL_law_285 : decode cL_law 285 = .ok (.aload_n 3, 1) := by decide +kernel
theorem dL_law_286 : decode cL_law 286 = .ok (.iconst 0, 1) := by decide +kernel
theorem dL_law_287 : decode cL_law 287 = .ok (.laload, 1) := by decide +kernel
theorem dL_law_288 : decode cL_law 288 = .ok (.iload 6, 2) := by decide +kernel
theorem dL_law_290 : decode cL_law 290 = .ok (.i2l, 1) := by decide +kernel
theorem dL_law_291 : decode cL_law 291 = .ok (.lcmp, 1) := by decide +kernel
theorem dL_law_292 : decode cL_law 292 = .ok (.ifCond .eq 5, 3) := by decide +kernel
theorem dL_law_295 : decode cL_law 295 = .ok (.iconst 0, 1) := by decide +kernel
theorem dL_law_296 : decode cL_law 296 = .ok (.ireturn, 1) := by decide +kernel
theorem dL_law_297 : decode cL_law 297 = .ok (.goto 1334, 3) := by decide +kernel
theorem dL_law_300 : decode cL_law 300 = .ok (.aload_n 1, 1) := by decide +kernel
theorem dL_law_301 : decode cL_law 301 = .ok (.aload_n 0, 1) := by decide +kernel
theorem dL_law_302 : decode cL_law 302 = .ok (.iload 4, 2) := by decide +kernel
theorem dL_law_304 : decode cL_law 304 = .ok (.iconst 1, 1) := by decide +kernel
theorem dL_law_305 : decode cL_law 305 = .ok (.iadd, 1) := by decide +kernel
theorem dL_law_306 : decode cL_law 306 = .ok (.iaload, 1) := by decide +kernel
theorem dL_law_307 : decode cL_law 307 = .ok (.aload_n 0, 1) := by decide +kernel
theorem dL_law_308 : decode cL_law 308 = .ok (.iload 4, 2) := by decide +kernel
theorem dL_law_310 : decode cL_law 310 = .ok (.iconst 2, 1) := by decide +kernel
theorem dL_law_311 : decode cL_law 311 = .ok (.iadd, 1) := by decide +kernel
theorem dL_law_312 : decode cL_law 312 = .ok (.iaload, 1) := by decide +kernel
theorem dL_law_313 : decode cL_law 313 = .ok (.aload_n 0, 1) := by decide +kernel
theorem dL_law_314 : decode cL_law 314 = .ok (.iload 4, 2) := by decide +kernel
theorem dL_law_316 : decode cL_law 316 = .ok (.iconst 3, 1) := by decide +kernel
theorem dL_law_317 : decode cL_law 317 = .ok (.iadd, 1) := by decide +kernel
theorem dL_law_318 : decode cL_law 318 = .ok (.iaload, 1) := by decide +kernel
theorem dL_law_319 : decode cL_law 319 = .ok (.aload_n 0, 1) := by decide +kernel
theorem dL_law_320 : decode cL_law 320 = .ok (.iload 4, 2) := by decide +kernel
theorem dL_law_322 : decode cL_law 322 = .ok (.iconst 4, 1) := by decide +kernel
theorem dL_law_323 : decode cL_law 323 = .ok (.iadd, 1) := by decide +kernel
theorem dL_law_324 : decode cL_law 324 = .ok (.iaload, 1) := by decide +kernel
theorem dL_law_325 : decode cL_law 325 = .ok (.aload_n 3, 1) := by decide +kernel
theorem dL_law_326 : decode cL_law 326 = .ok (.invokestatic 108, 3) := by decide +kernel
theorem dL_law_329 : decode cL_law 329 = .ok (.istore 5, 2) := by decide +kernel
theorem dL_law_331 : decode cL_law 331 = .ok (.aload_n 2, 1) := by decide +kernel
theorem dL_law_332 : decode cL_law 332 = .ok (.aload_n 0, 1) := by decide +kernel
theorem dL_law_333 : decode cL_law 333 = .ok (.iload 4, 2) := by decide +kernel
theorem dL_law_335 : decode cL_law 335 = .ok (.iconst 1, 1) := by decide +kernel
theorem dL_law_336 : decode cL_law 336 = .ok (.iadd, 1) := by decide +kernel
theorem dL_law_337 : decode cL_law 337 = .ok (.iaload, 1) := by decide +kernel
theorem dL_law_338 : decode cL_law 338 = .ok (.aload_n 0, 1) := by decide +kernel
theorem dL_law_339 : decode cL_law 339 = .ok (.iload 4, 2) := by decide +kernel
theorem dL_law_341 : decode cL_law 341 = .ok (.iconst 2, 1) := by decide +kernel
theorem dL_law_342 : decode cL_law 342 = .ok (.iadd, 1) := by decide +kernel
theorem dL_law_343 : decode cL_law 343 = .ok (.iaload, 1) := by decide +kernel
theorem dL_law_344 : decode cL_law 344 = .ok (.aload_n 0, 1) := by decide +kernel
theorem dL_law_345 : decode cL_law 345 = .ok (.iload 4, 2) := by decide +kernel
theorem dL_law_347 : decode cL_law 347 = .ok (.iconst 3, 1) := by decide +kernel
theorem dL_law_348 : decode cL_law 348 = .ok (.iadd, 1) := by decide +kernel
theorem dL_law_349 : decode cL_law 349 = .ok (.iaload, 1) := by decide +kernel
theorem dL_law_350 : decode cL_law 350 = .ok (.aload_n 0, 1) := by decide +kernel
theorem dL_law_351 : decode cL_law 351 = .ok (.iload 4, 2) := by decide +kernel
theorem dL_law_353 : decode cL_law 353 = .ok (.iconst 4, 1) := by decide +kernel
theorem dL_law_354 : decode cL_law 354 = .ok (.iadd, 1) := by decide +kernel
theorem dL_law_355 : decode cL_law 355 = .ok (.iaload, 1) := by decide +kernel
theorem dL_law_356 : decode cL_law 356 = .ok (.invokevirtual 111, 3) := by decide +kernel
theorem dL_law_359 : decode cL_law 359 = .ok (.istore 6, 2) := by decide +kernel
theorem dL_law_361 : decode cL_law 361 = .ok (.aload_n 2, 1) := by decide +kernel
theorem dL_law_362 : decode cL_law 362 = .ok (.invokevirtual 96, 3) := by decide +kernel
theorem dL_law_365 : decode cL_law 365 = .ok (.iload 5, 2) := by decide +kernel
theorem dL_law_367 : decode cL_law 367 = .ok (.if_icmp .eq 5, 3) := by decide +kernel
theorem dL_law_370 : decode cL_law 370 = .ok (.iconst 0, 1) := by decide +kernel
theorem dL_law_371 : decode cL_law 371 = .ok (.ireturn, 1) := by decide +kernel
theorem dL_law_372 : decode cL_law 372 = .ok (.iload 5, 2) := by decide +kernel
theorem dL_law_374 : decode cL_law 374 = .ok (.ifCond .ne 15, 3) := by decide +kernel
theorem dL_law_377 : decode cL_law 377 = .ok (.aload_n 3, 1) := by decide +kernel
theorem dL_law_378 : decode cL_law 378 = .ok (.iconst 0, 1) := by decide +kernel
theorem dL_law_379 : decode cL_law 379 = .ok (.laload, 1) := by decide +kernel
theorem dL_law_380 : decode cL_law 380 = .ok (.iload 6, 2) := by decide +kernel
theorem dL_law_382 : decode cL_law 382 = .ok (.i2l, 1) := by decide +kernel
theorem dL_law_383 : decode cL_law 383 = .ok (.lcmp, 1) := by decide +kernel
theorem dL_law_384 : decode cL_law 384 = .ok (.ifCond .eq 5, 3) := by decide +kernel
theorem dL_law_387 : decode cL_law 387 = .ok (.iconst 0, 1) := by decide +kernel
theorem dL_law_388 : decode cL_law 388 = .ok (.ireturn, 1) := by decide +kernel
theorem dL_law_389 : decode cL_law 389 = .ok (.goto 1242, 3) := by decide +kernel
theorem dL_law_392 : decode cL_law 392 = .ok (.aload_n 1, 1) := by decide +kernel
theorem dL_law_393 : decode cL_law 393 = .ok (.aload_n 0, 1) := by decide +kernel
theorem dL_law_394 : decode cL_law 394 = .ok (.iload 4, 2) := by decide +kernel
theorem dL_law_396 : decode cL_law 396 = .ok (.iconst 1, 1) := by decide +kernel
theorem dL_law_397 : decode cL_law 397 = .ok (.iadd, 1) := by decide +kernel
theorem dL_law_398 : decode cL_law 398 = .ok (.iaload, 1) := by decide +kernel
theorem dL_law_399 : decode cL_law 399 = .ok (.aload_n 0, 1) := by decide +kernel
theorem dL_law_400 : decode cL_law 400 = .ok (.iload 4, 2) := by decide +kernel
theorem dL_law_402 : decode cL_law 402 = .ok (.iconst 2, 1) := by decide +kernel
theorem dL_law_403 : decode cL_law 403 = .ok (.iadd, 1) := by decide +kernel
theorem dL_law_404 : decode cL_law 404 = .ok (.iaload, 1) := by decide +kernel
theorem dL_law_405 : decode cL_law 405 = .ok (.aload_n 3, 1) := by decide +kernel
theorem dL_law_406 : decode cL_law 406 = .ok (.invokestatic 112, 3) := by decide +kernel
theorem dL_law_409 : decode cL_law 409 = .ok (.istore 5, 2) := by decide +kernel
theorem dL_law_411 : decode cL_law 411 = .ok (.aload_n 2, 1) := by decide +kernel
theorem dL_law_412 : decode cL_law 412 = .ok (.aload_n 0, 1) := by decide +kernel
theorem dL_law_413 : decode cL_law 413 = .ok (.iload 4, 2) := by decide +kernel
theorem dL_law_415 : decode cL_law 415 = .ok (.iconst 1, 1) := by decide +kernel
theorem dL_law_416 : decode cL_law 416 = .ok (.iadd, 1) := by decide +kernel
theorem dL_law_417 : decode cL_law 417 = .ok (.iaload, 1) := by decide +kernel
theorem dL_law_418 : decode cL_law 418 = .ok (.aload_n 0, 1) := by decide +kernel
theorem dL_law_419 : decode cL_law 419 = .ok (.iload 4, 2) := by decide +kernel
theorem dL_law_421 : decode cL_law 421 = .ok (.iconst 2, 1) := by decide +kernel
theorem dL_law_422 : decode cL_law 422 = .ok (.iadd, 1) := by decide +kernel
theorem dL_law_423 : decode cL_law 423 = .ok (.iaload, 1) := by decide +kernel
theorem dL_law_424 : decode cL_law 424 = .ok (.invokevirtual 114, 3) := by decide +kernel
theorem dL_law_427 : decode cL_law 427 = .ok (.istore 6, 2) := by decide +kernel
theorem dL_law_429 : decode cL_law 429 = .ok (.aload_n 2, 1) := by decide +kernel
theorem dL_law_430 : decode cL_law 430 = .ok (.invokevirtual 96, 3) := by decide +kernel
theorem dL_law_433 : decode cL_law 433 = .ok (.iload 5, 2) := by decide +kernel
theorem dL_law_435 : decode cL_law 435 = .ok (.if_icmp .eq 5, 3) := by decide +kernel
theorem dL_law_438 : decode cL_law 438 = .ok (.iconst 0, 1) := by decide +kernel
theorem dL_law_439 : decode cL_law 439 = .ok (.ireturn, 1) := by decide +kernel
theorem dL_law_440 : decode cL_law 440 = .ok (.iload 5, 2) := by decide +kernel
theorem dL_law_442 : decode cL_law 442 = .ok (.ifCond .ne 15, 3) := by decide +kernel
theorem dL_law_445 : decode cL_law 445 = .ok (.aload_n 3, 1) := by decide +kernel
theorem dL_law_446 : decode cL_law 446 = .ok (.iconst 0, 1) := by decide +kernel
theorem dL_law_447 : decode cL_law 447 = .ok (.laload, 1) := by decide +kernel
theorem dL_law_448 : decode cL_law 448 = .ok (.iload 6, 2) := by decide +kernel
theorem dL_law_450 : decode cL_law 450 = .ok (.i2l, 1) := by decide +kernel
theorem dL_law_451 : decode cL_law 451 = .ok (.lcmp, 1) := by decide +kernel
theorem dL_law_452 : decode cL_law 452 = .ok (.ifCond .eq 5, 3) := by decide +kernel
theorem dL_law_455 : decode cL_law 455 = .ok (.iconst 0, 1) := by decide +kernel
theorem dL_law_456 : decode cL_law 456 = .ok (.ireturn, 1) := by decide +kernel
theorem dL_law_457 : decode cL_law 457 = .ok (.goto 1174, 3) := by decide +kernel
theorem dL_law_460 : decode cL_law 460 = .ok (.aload_n 1, 1) := by decide +kernel
theorem dL_law_461 : decode cL_law 461 = .ok (.aload_n 0, 1) := by decide +kernel
theorem dL_law_462 : decode cL_law 462 = .ok (.iload 4, 2) := by decide +kernel
theorem dL_law_464 : decode cL_law 464 = .ok (.iconst 1, 1) := by decide +kernel
theorem dL_law_465 : decode cL_law 465 = .ok (.iadd, 1) := by decide +kernel
theorem dL_law_466 : decode cL_law 466 = .ok (.iaload, 1) := by decide +kernel
theorem dL_law_467 : decode cL_law 467 = .ok (.aload_n 3, 1) := by decide +kernel
theorem dL_law_468 : decode cL_law 468 = .ok (.invokestatic 115, 3) := by decide +kernel
theorem dL_law_471 : decode cL_law 471 = .ok (.istore 5, 2) := by decide +kernel
theorem dL_law_473 : decode cL_law 473 = .ok (.aload_n 2, 1) := by decide +kernel
theorem dL_law_474 : decode cL_law 474 = .ok (.aload_n 0, 1) := by decide +kernel
theorem dL_law_475 : decode cL_law 475 = .ok (.iload 4, 2) := by decide +kernel
theorem dL_law_477 : decode cL_law 477 = .ok (.iconst 1, 1) := by decide +kernel
theorem dL_law_478 : decode cL_law 478 = .ok (.iadd, 1) := by decide +kernel
theorem dL_law_479 : decode cL_law 479 = .ok (.iaload, 1) := by decide +kernel
theorem dL_law_480 : decode cL_law 480 = .ok (.invokevirtual 117, 3) := by decide +kernel
theorem dL_law_483 : decode cL_law 483 = .ok (.istore 6, 2) := by decide +kernel
theorem dL_law_485 : decode cL_law 485 = .ok (.aload_n 2, 1) := by decide +kernel
theorem dL_law_486 : decode cL_law 486 = .ok (.invokevirtual 96, 3) := by decide +kernel
theorem dL_law_489 : decode cL_law 489 = .ok (.iload 5, 2) := by decide +kernel
theorem dL_law_491 : decode cL_law 491 = .ok (.if_icmp .eq 5, 3) := by decide +kernel
theorem dL_law_494 : decode cL_law 494 = .ok (.iconst 0, 1) := by decide +kernel
theorem dL_law_495 : decode cL_law 495 = .ok (.ireturn, 1) := by decide +kernel
theorem dL_law_496 : decode cL_law 496 = .ok (.iload 5, 2) := by decide +kernel
theorem dL_law_498 : decode cL_law 498 = .ok (.ifCond .ne 15, 3) := by decide +kernel
theorem dL_law_501 : decode cL_law 501 = .ok (.aload_n 3, 1) := by decide +kernel
theorem dL_law_502 : decode cL_law 502 = .ok (.iconst 0, 1) := by decide +kernel
theorem dL_law_503 : decode cL_law 503 = .ok (.laload, 1) := by decide +kernel
theorem dL_law_504 : decode cL_law 504 = .ok (.iload 6, 2) := by decide +kernel
theorem dL_law_506 : decode cL_law 506 = .ok (.i2l, 1) := by decide +kernel
theorem dL_law_507 : decode cL_law 507 = .ok (.lcmp, 1) := by decide +kernel
theorem dL_law_508 : decode cL_law 508 = .ok (.ifCond .eq 5, 3) := by decide +kernel
theorem dL_law_511 : decode cL_law 511 = .ok (.iconst 0, 1) := by decide +kernel
theorem dL_law_512 : decode cL_law 512 = .ok (.ireturn, 1) := by decide +kernel
theorem dL_law_513 : decode cL_law 513 = .ok (.goto 1118, 3) := by decide +kernel
theorem dL_law_516 : decode cL_law 516 = .ok (.aload_n 1, 1) := by decide +kernel
theorem dL_law_517 : decode cL_law 517 = .ok (.aload_n 0, 1) := by decide +kernel
theorem dL_law_518 : decode cL_law 518 = .ok (.iload 4, 2) := by decide +kernel
theorem dL_law_520 : decode cL_law 520 = .ok (.iconst 1, 1) := by decide +kernel
theorem dL_law_521 : decode cL_law 521 = .ok (.iadd, 1) := by decide +kernel
theorem dL_law_522 : decode cL_law 522 = .ok (.iaload, 1) := by decide +kernel
theorem dL_law_523 : decode cL_law 523 = .ok (.aload_n 0, 1) := by decide +kernel
theorem dL_law_524 : decode cL_law 524 = .ok (.iload 4, 2) := by decide +kernel
theorem dL_law_526 : decode cL_law 526 = .ok (.iconst 2, 1) := by decide +kernel
theorem dL_law_527 : decode cL_law 527 = .ok (.iadd, 1) := by decide +kernel
theorem dL_law_528 : decode cL_law 528 = .ok (.iaload, 1) := by decide +kernel
theorem dL_law_529 : decode cL_law 529 = .ok (.aload_n 3, 1) := by decide +kernel
theorem dL_law_530 : decode cL_law 530 = .ok (.invokestatic 118, 3) := by decide +kernel
theorem dL_law_533 : decode cL_law 533 = .ok (.istore 5, 2) := by decide +kernel
theorem dL_law_535 : decode cL_law 535 = .ok (.aload_n 2, 1) := by decide +kernel
theorem dL_law_536 : decode cL_law 536 = .ok (.aload_n 0, 1) := by decide +kernel
theorem dL_law_537 : decode cL_law 537 = .ok (.iload 4, 2) := by decide +kernel
theorem dL_law_539 : decode cL_law 539 = .ok (.iconst 1, 1) := by decide +kernel
theorem dL_law_540 : decode cL_law 540 = .ok (.iadd, 1) := by decide +kernel
theorem dL_law_541 : decode cL_law 541 = .ok (.iaload, 1) := by decide +kernel
theorem dL_law_542 : decode cL_law 542 = .ok (.aload_n 0, 1) := by decide +kernel
theorem dL_law_543 : decode cL_law 543 = .ok (.iload 4, 2) := by decide +kernel
theorem dL_law_545 : decode cL_law 545 = .ok (.iconst 2, 1) := by decide +kernel
theorem dL_law_546 : decode cL_law 546 = .ok (.iadd, 1) := by decide +kernel
theorem dL_law_547 : decode cL_law 547 = .ok (.iaload, 1) := by decide +kernel
theorem dL_law_548 : decode cL_law 548 = .ok (.invokevirtual 120, 3) := by decide +kernel
theorem dL_law_551 : decode cL_law 551 = .ok (.istore 6, 2) := by decide +kernel
theorem dL_law_553 : decode cL_law 553 = .ok (.aload_n 2, 1) := by decide +kernel
theorem dL_law_554 : decode cL_law 554 = .ok (.invokevirtual 96, 3) := by decide +kernel
theorem dL_law_557 : decode cL_law 557 = .ok (.iload 5, 2) := by decide +kernel
theorem dL_law_559 : decode cL_law 559 = .ok (.if_icmp .eq 5, 3) := by decide +kernel
theorem dL_law_562 : decode cL_law 562 = .ok (.iconst 0, 1) := by decide +kernel
theorem dL_law_563 : decode cL_law 563 = .ok (.ireturn, 1) := by decide +kernel
theorem dL_law_564 : decode cL_law 564 = .ok (.iload 5, 2) := by decide +kernel
theorem dL_law_566 : decode cL_law 566 = .ok (.ifCond .ne 15, 3) := by decide +kernel
theorem dL_law_569 : decode cL_law 569 = .ok (.aload_n 3, 1) := by decide +kernel
theorem dL_law_570 : decode cL_law 570 = .ok (.iconst 0, 1) := by decide +kernel
theorem dL_law_571 : decode cL_law 571 = .ok (.laload, 1) := by decide +kernel
theorem dL_law_572 : decode cL_law 572 = .ok (.iload 6, 2) := by decide +kernel
theorem dL_law_574 : decode cL_law 574 = .ok (.i2l, 1) := by decide +kernel
theorem dL_law_575 : decode cL_law 575 = .ok (.lcmp, 1) := by decide +kernel
theorem dL_law_576 : decode cL_law 576 = .ok (.ifCond .eq 5, 3) := by decide +kernel
theorem dL_law_579 : decode cL_law 579 = .ok (.iconst 0, 1) := by decide +kernel
theorem dL_law_580 : decode cL_law 580 = .ok (.ireturn, 1) := by decide +kernel
theorem dL_law_581 : decode cL_law 581 = .ok (.goto 1050, 3) := by decide +kernel
theorem dL_law_584 : decode cL_law 584 = .ok (.aload_n 1, 1) := by decide +kernel
theorem dL_law_585 : decode cL_law 585 = .ok (.aload_n 0, 1) := by decide +kernel
theorem dL_law_586 : decode cL_law 586 = .ok (.iload 4, 2) := by decide +kernel
theorem dL_law_588 : decode cL_law 588 = .ok (.iconst 1, 1) := by decide +kernel
theorem dL_law_589 : decode cL_law 589 = .ok (.iadd, 1) := by decide +kernel
theorem dL_law_590 : decode cL_law 590 = .ok (.iaload, 1) := by decide +kernel
theorem dL_law_591 : decode cL_law 591 = .ok (.aload_n 0, 1) := by decide +kernel
theorem dL_law_592 : decode cL_law 592 = .ok (.iload 4, 2) := by decide +kernel
theorem dL_law_594 : decode cL_law 594 = .ok (.iconst 2, 1) := by decide +kernel
theorem dL_law_595 : decode cL_law 595 = .ok (.iadd, 1) := by decide +kernel
theorem dL_law_596 : decode cL_law 596 = .ok (.iaload, 1) := by decide +kernel
theorem dL_law_597 : decode cL_law 597 = .ok (.aload_n 0, 1) := by decide +kernel
theorem dL_law_598 : decode cL_law 598 = .ok (.iload 4, 2) := by decide +kernel
theorem dL_law_600 : decode cL_law 600 = .ok (.iconst 3, 1) := by decide +kernel
theorem dL_law_601 : decode cL_law 601 = .ok (.iadd, 1) := by decide +kernel
theorem dL_law_602 : decode cL_law 602 = .ok (.iaload, 1) := by decide +kernel
theorem dL_law_603 : decode cL_law 603 = .ok (.ifCond .eq 7, 3) := by decide +kernel
theorem dL_law_606 : decode cL_law 606 = .ok (.iconst 1, 1) := by decide +kernel
theorem dL_law_607 : decode cL_law 607 = .ok (.goto 4, 3) := by decide +kernel
theorem dL_law_610 : decode cL_law 610 = .ok (.iconst 0, 1) := by decide +kernel
theorem dL_law_611 : decode cL_law 611 = .ok (.aload_n 3, 1) := by decide +kernel
theorem dL_law_612 : decode cL_law 612 = .ok (.invokestatic 121, 3) := by decide +kernel
theorem dL_law_615 : decode cL_law 615 = .ok (.istore 5, 2) := by decide +kernel
theorem dL_law_617 : decode cL_law 617 = .ok (.aload_n 2, 1) := by decide +kernel
theorem dL_law_618 : decode cL_law 618 = .ok (.aload_n 0, 1) := by decide +kernel
theorem dL_law_619 : decode cL_law 619 = .ok (.iload 4, 2) := by decide +kernel
theorem dL_law_621 : decode cL_law 621 = .ok (.iconst 1, 1) := by decide +kernel
theorem dL_law_622 : decode cL_law 622 = .ok (.iadd, 1) := by decide +kernel
theorem dL_law_623 : decode cL_law 623 = .ok (.iaload, 1) := by decide +kernel
theorem dL_law_624 : decode cL_law 624 = .ok (.aload_n 0, 1) := by decide +kernel
theorem dL_law_625 : decode cL_law 625 = .ok (.iload 4, 2) := by decide +kernel
theorem dL_law_627 : decode cL_law 627 = .ok (.iconst 2, 1) := by decide +kernel
theorem dL_law_628 : decode cL_law 628 = .ok (.iadd, 1) := by decide +kernel
theorem dL_law_629 : decode cL_law 629 = .ok (.iaload, 1) := by decide +kernel
theorem dL_law_630 : decode cL_law 630 = .ok (.aload_n 0, 1) := by decide +kernel
theorem dL_law_631 : decode cL_law 631 = .ok (.iload 4, 2) := by decide +kernel
theorem dL_law_633 : decode cL_law 633 = .ok (.iconst 3, 1) := by decide +kernel
theorem dL_law_634 : decode cL_law 634 = .ok (.iadd, 1) := by decide +kernel
theorem dL_law_635 : decode cL_law 635 = .ok (.iaload, 1) := by decide +kernel
theorem dL_law_636 : decode cL_law 636 = .ok (.ifCond .eq 7, 3) := by decide +kernel
theorem dL_law_639 : decode cL_law 639 = .ok (.iconst 1, 1) := by decide +kernel
theorem dL_law_640 : decode cL_law 640 = .ok (.goto 4, 3) := by decide +kernel
theorem dL_law_643 : decode cL_law 643 = .ok (.iconst 0, 1) := by decide +kernel
theorem dL_law_644 : decode cL_law 644 = .ok (.invokevirtual 124, 3) := by decide +kernel
theorem dL_law_647 : decode cL_law 647 = .ok (.istore 6, 2) := by decide +kernel
theorem dL_law_649 : decode cL_law 649 = .ok (.aload_n 2, 1) := by decide +kernel
theorem dL_law_650 : decode cL_law 650 = .ok (.invokevirtual 96, 3) := by decide +kernel
theorem dL_law_653 : decode cL_law 653 = .ok (.iload 5, 2) := by decide +kernel
theorem dL_law_655 : decode cL_law 655 = .ok (.if_icmp .eq 5, 3) := by decide +kernel
theorem dL_law_658 : decode cL_law 658 = .ok (.iconst 0, 1) := by decide +kernel
theorem dL_law_659 : decode cL_law 659 = .ok (.ireturn, 1) := by decide +kernel
theorem dL_law_660 : decode cL_law 660 = .ok (.iload 5, 2) := by decide +kernel
theorem dL_law_662 : decode cL_law 662 = .ok (.ifCond .ne 22, 3) := by decide +kernel
theorem dL_law_665 : decode cL_law 665 = .ok (.aload_n 3, 1) := by decide +kernel
theorem dL_law_666 : decode cL_law 666 = .ok (.iconst 0, 1) := by decide +kernel
theorem dL_law_667 : decode cL_law 667 = .ok (.laload, 1) := by decide +kernel
theorem dL_law_668 : decode cL_law 668 = .ok (.iload 6, 2) := by decide +kernel
theorem dL_law_670 : decode cL_law 670 = .ok (.ifCond .eq 7, 3) := by decide +kernel
theorem dL_law_673 : decode cL_law 673 = .ok (.lconst 1, 1) := by decide +kernel
theorem dL_law_674 : decode cL_law 674 = .ok (.goto 4, 3) := by decide +kernel
theorem dL_law_677 : decode cL_law 677 = .ok (.lconst 0, 1) := by decide +kernel
theorem dL_law_678 : decode cL_law 678 = .ok (.lcmp, 1) := by decide +kernel
theorem dL_law_679 : decode cL_law 679 = .ok (.ifCond .eq 5, 3) := by decide +kernel
theorem dL_law_682 : decode cL_law 682 = .ok (.iconst 0, 1) := by decide +kernel
theorem dL_law_683 : decode cL_law 683 = .ok (.ireturn, 1) := by decide +kernel
theorem dL_law_684 : decode cL_law 684 = .ok (.goto 947, 3) := by decide +kernel
theorem dL_law_687 : decode cL_law 687 = .ok (.aload_n 1, 1) := by decide +kernel
theorem dL_law_688 : decode cL_law 688 = .ok (.aload_n 0, 1) := by decide +kernel
theorem dL_law_689 : decode cL_law 689 = .ok (.iload 4, 2) := by decide +kernel
theorem dL_law_691 : decode cL_law 691 = .ok (.iconst 1, 1) := by decide +kernel
theorem dL_law_692 : decode cL_law 692 = .ok (.iadd, 1) := by decide +kernel
theorem dL_law_693 : decode cL_law 693 = .ok (.iaload, 1) := by decide +kernel
theorem dL_law_694 : decode cL_law 694 = .ok (.aload_n 0, 1) := by decide +kernel
theorem dL_law_695 : decode cL_law 695 = .ok (.iload 4, 2) := by decide +kernel
theorem dL_law_697 : decode cL_law 697 = .ok (.iconst 2, 1) := by decide +kernel
theorem dL_law_698 : decode cL_law 698 = .ok (.iadd, 1) := by decide +kernel
theorem dL_law_699 : decode cL_law 699 = .ok (.iaload, 1) := by decide +kernel
theorem dL_law_700 : decode cL_law 700 = .ok (.aload_n 0, 1) := by decide +kernel
theorem dL_law_701 : decode cL_law 701 = .ok (.iload 4, 2) := by decide +kernel
theorem dL_law_703 : decode cL_law 703 = .ok (.iconst 3, 1) := by decide +kernel
theorem dL_law_704 : decode cL_law 704 = .ok (.iadd, 1) := by decide +kernel
theorem dL_law_705 : decode cL_law 705 = .ok (.iaload, 1) := by decide +kernel
theorem dL_law_706 : decode cL_law 706 = .ok (.aload_n 0, 1) := by decide +kernel
theorem dL_law_707 : decode cL_law 707 = .ok (.iload 4, 2) := by decide +kernel
theorem dL_law_709 : decode cL_law 709 = .ok (.iconst 4, 1) := by decide +kernel
theorem dL_law_710 : decode cL_law 710 = .ok (.iadd, 1) := by decide +kernel
theorem dL_law_711 : decode cL_law 711 = .ok (.iaload, 1) := by decide +kernel
theorem dL_law_712 : decode cL_law 712 = .ok (.aload_n 0, 1) := by decide +kernel
theorem dL_law_713 : decode cL_law 713 = .ok (.iload 4, 2) := by decide +kernel
theorem dL_law_715 : decode cL_law 715 = .ok (.iconst 5, 1) := by decide +kernel
theorem dL_law_716 : decode cL_law 716 = .ok (.iadd, 1) := by decide +kernel
theorem dL_law_717 : decode cL_law 717 = .ok (.iaload, 1) := by decide +kernel
theorem dL_law_718 : decode cL_law 718 = .ok (.aload_n 3, 1) := by decide +kernel
theorem dL_law_719 : decode cL_law 719 = .ok (.invokestatic 125, 3) := by decide +kernel
theorem dL_law_722 : decode cL_law 722 = .ok (.istore 5, 2) := by decide +kernel
theorem dL_law_724 : decode cL_law 724 = .ok (.aload_n 2, 1) := by decide +kernel
theorem dL_law_725 : decode cL_law 725 = .ok (.aload_n 0, 1) := by decide +kernel
theorem dL_law_726 : decode cL_law 726 = .ok (.iload 4, 2) := by decide +kernel
theorem dL_law_728 : decode cL_law 728 = .ok (.iconst 1, 1) := by decide +kernel
theorem dL_law_729 : decode cL_law 729 = .ok (.iadd, 1) := by decide +kernel
theorem dL_law_730 : decode cL_law 730 = .ok (.iaload, 1) := by decide +kernel
theorem dL_law_731 : decode cL_law 731 = .ok (.aload_n 0, 1) := by decide +kernel
theorem dL_law_732 : decode cL_law 732 = .ok (.iload 4, 2) := by decide +kernel
theorem dL_law_734 : decode cL_law 734 = .ok (.iconst 2, 1) := by decide +kernel
theorem dL_law_735 : decode cL_law 735 = .ok (.iadd, 1) := by decide +kernel
theorem dL_law_736 : decode cL_law 736 = .ok (.iaload, 1) := by decide +kernel
theorem dL_law_737 : decode cL_law 737 = .ok (.aload_n 0, 1) := by decide +kernel
theorem dL_law_738 : decode cL_law 738 = .ok (.iload 4, 2) := by decide +kernel
theorem dL_law_740 : decode cL_law 740 = .ok (.iconst 3, 1) := by decide +kernel
theorem dL_law_741 : decode cL_law 741 = .ok (.iadd, 1) := by decide +kernel
theorem dL_law_742 : decode cL_law 742 = .ok (.iaload, 1) := by decide +kernel
theorem dL_law_743 : decode cL_law 743 = .ok (.aload_n 0, 1) := by decide +kernel
theorem dL_law_744 : decode cL_law 744 = .ok (.iload 4, 2) := by decide +kernel
theorem dL_law_746 : decode cL_law 746 = .ok (.iconst 4, 1) := by decide +kernel
theorem dL_law_747 : decode cL_law 747 = .ok (.iadd, 1) := by decide +kernel
theorem dL_law_748 : decode cL_law 748 = .ok (.iaload, 1) := by decide +kernel
theorem dL_law_749 : decode cL_law 749 = .ok (.aload_n 0, 1) := by decide +kernel
theorem dL_law_750 : decode cL_law 750 = .ok (.iload 4, 2) := by decide +kernel
theorem dL_law_752 : decode cL_law 752 = .ok (.iconst 5, 1) := by decide +kernel
theorem dL_law_753 : decode cL_law 753 = .ok (.iadd, 1) := by decide +kernel
theorem dL_law_754 : decode cL_law 754 = .ok (.iaload, 1) := by decide +kernel
theorem dL_law_755 : decode cL_law 755 = .ok (.invokevirtual 128, 3) := by decide +kernel
theorem dL_law_758 : decode cL_law 758 = .ok (.istore 6, 2) := by decide +kernel
theorem dL_law_760 : decode cL_law 760 = .ok (.aload_n 2, 1) := by decide +kernel
theorem dL_law_761 : decode cL_law 761 = .ok (.invokevirtual 96, 3) := by decide +kernel
theorem dL_law_764 : decode cL_law 764 = .ok (.iload 5, 2) := by decide +kernel
theorem dL_law_766 : decode cL_law 766 = .ok (.if_icmp .eq 5, 3) := by decide +kernel
theorem dL_law_769 : decode cL_law 769 = .ok (.iconst 0, 1) := by decide +kernel
theorem dL_law_770 : decode cL_law 770 = .ok (.ireturn, 1) := by decide +kernel
theorem dL_law_771 : decode cL_law 771 = .ok (.iload 5, 2) := by decide +kernel
theorem dL_law_773 : decode cL_law 773 = .ok (.ifCond .ne 15, 3) := by decide +kernel
theorem dL_law_776 : decode cL_law 776 = .ok (.aload_n 3, 1) := by decide +kernel
theorem dL_law_777 : decode cL_law 777 = .ok (.iconst 0, 1) := by decide +kernel
theorem dL_law_778 : decode cL_law 778 = .ok (.laload, 1) := by decide +kernel
theorem dL_law_779 : decode cL_law 779 = .ok (.iload 6, 2) := by decide +kernel
theorem dL_law_781 : decode cL_law 781 = .ok (.i2l, 1) := by decide +kernel
theorem dL_law_782 : decode cL_law 782 = .ok (.lcmp, 1) := by decide +kernel
theorem dL_law_783 : decode cL_law 783 = .ok (.ifCond .eq 5, 3) := by decide +kernel
theorem dL_law_786 : decode cL_law 786 = .ok (.iconst 0, 1) := by decide +kernel
theorem dL_law_787 : decode cL_law 787 = .ok (.ireturn, 1) := by decide +kernel
theorem dL_law_788 : decode cL_law 788 = .ok (.goto 843, 3) := by decide +kernel
theorem dL_law_791 : decode cL_law 791 = .ok (.aload_n 1, 1) := by decide +kernel
theorem dL_law_792 : decode cL_law 792 = .ok (.aload_n 0, 1) := by decide +kernel
theorem dL_law_793 : decode cL_law 793 = .ok (.iload 4, 2) := by decide +kernel
theorem dL_law_795 : decode cL_law 795 = .ok (.iconst 1, 1) := by decide +kernel
theorem dL_law_796 : decode cL_law 796 = .ok (.iadd, 1) := by decide +kernel
theorem dL_law_797 : decode cL_law 797 = .ok (.iaload, 1) := by decide +kernel
theorem dL_law_798 : decode cL_law 798 = .ok (.aload_n 0, 1) := by decide +kernel
theorem dL_law_799 : decode cL_law 799 = .ok (.iload 4, 2) := by decide +kernel
theorem dL_law_801 : decode cL_law 801 = .ok (.iconst 2, 1) := by decide +kernel
theorem dL_law_802 : decode cL_law 802 = .ok (.iadd, 1) := by decide +kernel
theorem dL_law_803 : decode cL_law 803 = .ok (.iaload, 1) := by decide +kernel
theorem dL_law_804 : decode cL_law 804 = .ok (.aload_n 0, 1) := by decide +kernel
theorem dL_law_805 : decode cL_law 805 = .ok (.iload 4, 2) := by decide +kernel
theorem dL_law_807 : decode cL_law 807 = .ok (.iconst 3, 1) := by decide +kernel
theorem dL_law_808 : decode cL_law 808 = .ok (.iadd, 1) := by decide +kernel
theorem dL_law_809 : decode cL_law 809 = .ok (.iaload, 1) := by decide +kernel
theorem dL_law_810 : decode cL_law 810 = .ok (.ifCond .eq 7, 3) := by decide +kernel
theorem dL_law_813 : decode cL_law 813 = .ok (.iconst 1, 1) := by decide +kernel
theorem dL_law_814 : decode cL_law 814 = .ok (.goto 4, 3) := by decide +kernel
theorem dL_law_817 : decode cL_law 817 = .ok (.iconst 0, 1) := by decide +kernel
theorem dL_law_818 : decode cL_law 818 = .ok (.aload_n 3, 1) := by decide +kernel
theorem dL_law_819 : decode cL_law 819 = .ok (.invokestatic 129, 3) := by decide +kernel
theorem dL_law_822 : decode cL_law 822 = .ok (.istore 5, 2) := by decide +kernel
theorem dL_law_824 : decode cL_law 824 = .ok (.aload_n 2, 1) := by decide +kernel
theorem dL_law_825 : decode cL_law 825 = .ok (.aload_n 0, 1) := by decide +kernel
theorem dL_law_826 : decode cL_law 826 = .ok (.iload 4, 2) := by decide +kernel
theorem dL_law_828 : decode cL_law 828 = .ok (.iconst 1, 1) := by decide +kernel
theorem dL_law_829 : decode cL_law 829 = .ok (.iadd, 1) := by decide +kernel
theorem dL_law_830 : decode cL_law 830 = .ok (.iaload, 1) := by decide +kernel
theorem dL_law_831 : decode cL_law 831 = .ok (.aload_n 0, 1) := by decide +kernel
theorem dL_law_832 : decode cL_law 832 = .ok (.iload 4, 2) := by decide +kernel
theorem dL_law_834 : decode cL_law 834 = .ok (.iconst 2, 1) := by decide +kernel
theorem dL_law_835 : decode cL_law 835 = .ok (.iadd, 1) := by decide +kernel
theorem dL_law_836 : decode cL_law 836 = .ok (.iaload, 1) := by decide +kernel
theorem dL_law_837 : decode cL_law 837 = .ok (.aload_n 0, 1) := by decide +kernel
theorem dL_law_838 : decode cL_law 838 = .ok (.iload 4, 2) := by decide +kernel
theorem dL_law_840 : decode cL_law 840 = .ok (.iconst 3, 1) := by decide +kernel
theorem dL_law_841 : decode cL_law 841 = .ok (.iadd, 1) := by decide +kernel
theorem dL_law_842 : decode cL_law 842 = .ok (.iaload, 1) := by decide +kernel
theorem dL_law_843 : decode cL_law 843 = .ok (.ifCond .eq 7, 3) := by decide +kernel
theorem dL_law_846 : decode cL_law 846 = .ok (.iconst 1, 1) := by decide +kernel
theorem dL_law_847 : decode cL_law 847 = .ok (.goto 4, 3) := by decide +kernel
theorem dL_law_850 : decode cL_law 850 = .ok (.iconst 0, 1) := by decide +kernel
theorem dL_law_851 : decode cL_law 851 = .ok (.invokevirtual 131, 3) := by decide +kernel
theorem dL_law_854 : decode cL_law 854 = .ok (.istore 6, 2) := by decide +kernel
theorem dL_law_856 : decode cL_law 856 = .ok (.aload_n 2, 1) := by decide +kernel
theorem dL_law_857 : decode cL_law 857 = .ok (.invokevirtual 96, 3) := by decide +kernel
theorem dL_law_860 : decode cL_law 860 = .ok (.iload 5, 2) := by decide +kernel
theorem dL_law_862 : decode cL_law 862 = .ok (.if_icmp .eq 5, 3) := by decide +kernel
theorem dL_law_865 : decode cL_law 865 = .ok (.iconst 0, 1) := by decide +kernel
theorem dL_law_866 : decode cL_law 866 = .ok (.ireturn, 1) := by decide +kernel
theorem dL_law_867 : decode cL_law 867 = .ok (.iload 5, 2) := by decide +kernel
theorem dL_law_869 : decode cL_law 869 = .ok (.ifCond .ne 22, 3) := by decide +kernel
theorem dL_law_872 : decode cL_law 872 = .ok (.aload_n 3, 1) := by decide +kernel
theorem dL_law_873 : decode cL_law 873 = .ok (.iconst 0, 1) := by decide +kernel
theorem dL_law_874 : decode cL_law 874 = .ok (.laload, 1) := by decide +kernel
theorem dL_law_875 : decode cL_law 875 = .ok (.iload 6, 2) := by decide +kernel
theorem dL_law_877 : decode cL_law 877 = .ok (.ifCond .eq 7, 3) := by decide +kernel
theorem dL_law_880 : decode cL_law 880 = .ok (.lconst 1, 1) := by decide +kernel
theorem dL_law_881 : decode cL_law 881 = .ok (.goto 4, 3) := by decide +kernel
theorem dL_law_884 : decode cL_law 884 = .ok (.lconst 0, 1) := by decide +kernel
theorem dL_law_885 : decode cL_law 885 = .ok (.lcmp, 1) := by decide +kernel
theorem dL_law_886 : decode cL_law 886 = .ok (.ifCond .eq 5, 3) := by decide +kernel
theorem dL_law_889 : decode cL_law 889 = .ok (.iconst 0, 1) := by decide +kernel
theorem dL_law_890 : decode cL_law 890 = .ok (.ireturn, 1) := by decide +kernel
theorem dL_law_891 : decode cL_law 891 = .ok (.goto 740, 3) := by decide +kernel
theorem dL_law_894 : decode cL_law 894 = .ok (.aload_n 1, 1) := by decide +kernel
theorem dL_law_895 : decode cL_law 895 = .ok (.aload_n 0, 1) := by decide +kernel
theorem dL_law_896 : decode cL_law 896 = .ok (.iload 4, 2) := by decide +kernel
theorem dL_law_898 : decode cL_law 898 = .ok (.iconst 1, 1) := by decide +kernel
theorem dL_law_899 : decode cL_law 899 = .ok (.iadd, 1) := by decide +kernel
theorem dL_law_900 : decode cL_law 900 = .ok (.iaload, 1) := by decide +kernel
theorem dL_law_901 : decode cL_law 901 = .ok (.aload_n 0, 1) := by decide +kernel
theorem dL_law_902 : decode cL_law 902 = .ok (.iload 4, 2) := by decide +kernel
theorem dL_law_904 : decode cL_law 904 = .ok (.iconst 2, 1) := by decide +kernel
theorem dL_law_905 : decode cL_law 905 = .ok (.iadd, 1) := by decide +kernel
theorem dL_law_906 : decode cL_law 906 = .ok (.iaload, 1) := by decide +kernel
theorem dL_law_907 : decode cL_law 907 = .ok (.aload_n 0, 1) := by decide +kernel
theorem dL_law_908 : decode cL_law 908 = .ok (.iload 4, 2) := by decide +kernel
theorem dL_law_910 : decode cL_law 910 = .ok (.iconst 3, 1) := by decide +kernel
theorem dL_law_911 : decode cL_law 911 = .ok (.iadd, 1) := by decide +kernel
theorem dL_law_912 : decode cL_law 912 = .ok (.iaload, 1) := by decide +kernel
theorem dL_law_913 : decode cL_law 913 = .ok (.ifCond .eq 7, 3) := by decide +kernel
theorem dL_law_916 : decode cL_law 916 = .ok (.iconst 1, 1) := by decide +kernel
theorem dL_law_917 : decode cL_law 917 = .ok (.goto 4, 3) := by decide +kernel
theorem dL_law_920 : decode cL_law 920 = .ok (.iconst 0, 1) := by decide +kernel
theorem dL_law_921 : decode cL_law 921 = .ok (.aload_n 3, 1) := by decide +kernel
theorem dL_law_922 : decode cL_law 922 = .ok (.invokestatic 132, 3) := by decide +kernel
theorem dL_law_925 : decode cL_law 925 = .ok (.istore 5, 2) := by decide +kernel
theorem dL_law_927 : decode cL_law 927 = .ok (.aload_n 2, 1) := by decide +kernel
theorem dL_law_928 : decode cL_law 928 = .ok (.aload_n 0, 1) := by decide +kernel
theorem dL_law_929 : decode cL_law 929 = .ok (.iload 4, 2) := by decide +kernel
theorem dL_law_931 : decode cL_law 931 = .ok (.iconst 1, 1) := by decide +kernel
theorem dL_law_932 : decode cL_law 932 = .ok (.iadd, 1) := by decide +kernel
theorem dL_law_933 : decode cL_law 933 = .ok (.iaload, 1) := by decide +kernel
theorem dL_law_934 : decode cL_law 934 = .ok (.aload_n 0, 1) := by decide +kernel
theorem dL_law_935 : decode cL_law 935 = .ok (.iload 4, 2) := by decide +kernel
theorem dL_law_937 : decode cL_law 937 = .ok (.iconst 2, 1) := by decide +kernel
theorem dL_law_938 : decode cL_law 938 = .ok (.iadd, 1) := by decide +kernel
theorem dL_law_939 : decode cL_law 939 = .ok (.iaload, 1) := by decide +kernel
theorem dL_law_940 : decode cL_law 940 = .ok (.aload_n 0, 1) := by decide +kernel
theorem dL_law_941 : decode cL_law 941 = .ok (.iload 4, 2) := by decide +kernel
theorem dL_law_943 : decode cL_law 943 = .ok (.iconst 3, 1) := by decide +kernel
theorem dL_law_944 : decode cL_law 944 = .ok (.iadd, 1) := by decide +kernel
theorem dL_law_945 : decode cL_law 945 = .ok (.iaload, 1) := by decide +kernel
theorem dL_law_946 : decode cL_law 946 = .ok (.ifCond .eq 7, 3) := by decide +kernel
theorem dL_law_949 : decode cL_law 949 = .ok (.iconst 1, 1) := by decide +kernel
theorem dL_law_950 : decode cL_law 950 = .ok (.goto 4, 3) := by decide +kernel
theorem dL_law_953 : decode cL_law 953 = .ok (.iconst 0, 1) := by decide +kernel
theorem dL_law_954 : decode cL_law 954 = .ok (.invokevirtual 134, 3) := by decide +kernel
theorem dL_law_957 : decode cL_law 957 = .ok (.istore 6, 2) := by decide +kernel
theorem dL_law_959 : decode cL_law 959 = .ok (.aload_n 2, 1) := by decide +kernel
theorem dL_law_960 : decode cL_law 960 = .ok (.invokevirtual 96, 3) := by decide +kernel
theorem dL_law_963 : decode cL_law 963 = .ok (.iload 5, 2) := by decide +kernel
theorem dL_law_965 : decode cL_law 965 = .ok (.if_icmp .eq 5, 3) := by decide +kernel
theorem dL_law_968 : decode cL_law 968 = .ok (.iconst 0, 1) := by decide +kernel
theorem dL_law_969 : decode cL_law 969 = .ok (.ireturn, 1) := by decide +kernel
theorem dL_law_970 : decode cL_law 970 = .ok (.iload 5, 2) := by decide +kernel
theorem dL_law_972 : decode cL_law 972 = .ok (.ifCond .ne 22, 3) := by decide +kernel
theorem dL_law_975 : decode cL_law 975 = .ok (.aload_n 3, 1) := by decide +kernel
theorem dL_law_976 : decode cL_law 976 = .ok (.iconst 0, 1) := by decide +kernel
theorem dL_law_977 : decode cL_law 977 = .ok (.laload, 1) := by decide +kernel
theorem dL_law_978 : decode cL_law 978 = .ok (.iload 6, 2) := by decide +kernel
theorem dL_law_980 : decode cL_law 980 = .ok (.ifCond .eq 7, 3) := by decide +kernel
theorem dL_law_983 : decode cL_law 983 = .ok (.lconst 1, 1) := by decide +kernel
theorem dL_law_984 : decode cL_law 984 = .ok (.goto 4, 3) := by decide +kernel
theorem dL_law_987 : decode cL_law 987 = .ok (.lconst 0, 1) := by decide +kernel
theorem dL_law_988 : decode cL_law 988 = .ok (.lcmp, 1) := by decide +kernel
theorem dL_law_989 : decode cL_law 989 = .ok (.ifCond .eq 5, 3) := by decide +kernel
theorem dL_law_992 : decode cL_law 992 = .ok (.iconst 0, 1) := by decide +kernel
theorem dL_law_993 : decode cL_law 993 = .ok (.ireturn, 1) := by decide +kernel
theorem dL_law_994 : decode cL_law 994 = .ok (.goto 637, 3) := by decide +kernel
theorem dL_law_997 : decode cL_law 997 = .ok (.aload_n 1, 1) := by decide +kernel
theorem dL_law_998 : decode cL_law 998 = .ok (.aload_n 0, 1) := by decide +kernel
theorem dL_law_999 : decode cL_law 999 = .ok (.iload 4, 2) := by decide +kernel
theorem dL_law_1001 : decode cL_law 1001 = .ok (.iconst 1, 1) := by decide +kernel
theorem dL_law_1002 : decode cL_law 1002 = .ok (.iadd, 1) := by decide +kernel
theorem dL_law_1003 : decode cL_law 1003 = .ok (.iaload, 1) := by decide +kernel
theorem dL_law_1004 : decode cL_law 1004 = .ok (.aload_n 0, 1) := by decide +kernel
theorem dL_law_1005 : decode cL_law 1005 = .ok (.iload 4, 2) := by decide +kernel
theorem dL_law_1007 : decode cL_law 1007 = .ok (.iconst 2, 1) := by decide +kernel
theorem dL_law_1008 : decode cL_law 1008 = .ok (.iadd, 1) := by decide +kernel
theorem dL_law_1009 : decode cL_law 1009 = .ok (.iaload, 1) := by decide +kernel
theorem dL_law_1010 : decode cL_law 1010 = .ok (.aload_n 0, 1) := by decide +kernel
theorem dL_law_1011 : decode cL_law 1011 = .ok (.iload 4, 2) := by decide +kernel
theorem dL_law_1013 : decode cL_law 1013 = .ok (.iconst 3, 1) := by decide +kernel
theorem dL_law_1014 : decode cL_law 1014 = .ok (.iadd, 1) := by decide +kernel
theorem dL_law_1015 : decode cL_law 1015 = .ok (.iaload, 1) := by decide +kernel
theorem dL_law_1016 : decode cL_law 1016 = .ok (.aload_n 3, 1) := by decide +kernel
theorem dL_law_1017 : decode cL_law 1017 = .ok (.invokestatic 135, 3) := by decide +kernel
theorem dL_law_1020 : decode cL_law 1020 = .ok (.istore 5, 2) := by decide +kernel
theorem dL_law_1022 : decode cL_law 1022 = .ok (.aload_n 2, 1) := by decide +kernel
theorem dL_law_1023 : decode cL_law 1023 = .ok (.aload_n 0, 1) := by decide +kernel
theorem dL_law_1024 : decode cL_law 1024 = .ok (.iload 4, 2) := by decide +kernel
theorem dL_law_1026 : decode cL_law 1026 = .ok (.iconst 1, 1) := by decide +kernel
theorem dL_law_1027 : decode cL_law 1027 = .ok (.iadd, 1) := by decide +kernel
theorem dL_law_1028 : decode cL_law 1028 = .ok (.iaload, 1) := by decide +kernel
theorem dL_law_1029 : decode cL_law 1029 = .ok (.aload_n 0, 1) := by decide +kernel
theorem dL_law_1030 : decode cL_law 1030 = .ok (.iload 4, 2) := by decide +kernel
theorem dL_law_1032 : decode cL_law 1032 = .ok (.iconst 2, 1) := by decide +kernel
theorem dL_law_1033 : decode cL_law 1033 = .ok (.iadd, 1) := by decide +kernel
theorem dL_law_1034 : decode cL_law 1034 = .ok (.iaload, 1) := by decide +kernel
theorem dL_law_1035 : decode cL_law 1035 = .ok (.aload_n 0, 1) := by decide +kernel
theorem dL_law_1036 : decode cL_law 1036 = .ok (.iload 4, 2) := by decide +kernel
theorem dL_law_1038 : decode cL_law 1038 = .ok (.iconst 3, 1) := by decide +kernel
theorem dL_law_1039 : decode cL_law 1039 = .ok (.iadd, 1) := by decide +kernel
theorem dL_law_1040 : decode cL_law 1040 = .ok (.iaload, 1) := by decide +kernel
theorem dL_law_1041 : decode cL_law 1041 = .ok (.invokevirtual 138, 3) := by decide +kernel
theorem dL_law_1044 : decode cL_law 1044 = .ok (.istore 6, 2) := by decide +kernel
theorem dL_law_1046 : decode cL_law 1046 = .ok (.aload_n 2, 1) := by decide +kernel
theorem dL_law_1047 : decode cL_law 1047 = .ok (.invokevirtual 96, 3) := by decide +kernel
theorem dL_law_1050 : decode cL_law 1050 = .ok (.iload 5, 2) := by decide +kernel
theorem dL_law_1052 : decode cL_law 1052 = .ok (.if_icmp .eq 5, 3) := by decide +kernel
theorem dL_law_1055 : decode cL_law 1055 = .ok (.iconst 0, 1) := by decide +kernel
theorem dL_law_1056 : decode cL_law 1056 = .ok (.ireturn, 1) := by decide +kernel
theorem dL_law_1057 : decode cL_law 1057 = .ok (.iload 5, 2) := by decide +kernel
theorem dL_law_1059 : decode cL_law 1059 = .ok (.ifCond .ne 22, 3) := by decide +kernel
theorem dL_law_1062 : decode cL_law 1062 = .ok (.aload_n 3, 1) := by decide +kernel
theorem dL_law_1063 : decode cL_law 1063 = .ok (.iconst 0, 1) := by decide +kernel
theorem dL_law_1064 : decode cL_law 1064 = .ok (.laload, 1) := by decide +kernel
theorem dL_law_1065 : decode cL_law 1065 = .ok (.iload 6, 2) := by decide +kernel
theorem dL_law_1067 : decode cL_law 1067 = .ok (.ifCond .eq 7, 3) := by decide +kernel
theorem dL_law_1070 : decode cL_law 1070 = .ok (.lconst 1, 1) := by decide +kernel
theorem dL_law_1071 : decode cL_law 1071 = .ok (.goto 4, 3) := by decide +kernel
theorem dL_law_1074 : decode cL_law 1074 = .ok (.lconst 0, 1) := by decide +kernel
theorem dL_law_1075 : decode cL_law 1075 = .ok (.lcmp, 1) := by decide +kernel
theorem dL_law_1076 : decode cL_law 1076 = .ok (.ifCond .eq 5, 3) := by decide +kernel
theorem dL_law_1079 : decode cL_law 1079 = .ok (.iconst 0, 1) := by decide +kernel
theorem dL_law_1080 : decode cL_law 1080 = .ok (.ireturn, 1) := by decide +kernel
theorem dL_law_1081 : decode cL_law 1081 = .ok (.goto 550, 3) := by decide +kernel
theorem dL_law_1084 : decode cL_law 1084 = .ok (.aload_n 1, 1) := by decide +kernel
theorem dL_law_1085 : decode cL_law 1085 = .ok (.aload_n 0, 1) := by decide +kernel
theorem dL_law_1086 : decode cL_law 1086 = .ok (.iload 4, 2) := by decide +kernel
theorem dL_law_1088 : decode cL_law 1088 = .ok (.iconst 1, 1) := by decide +kernel
theorem dL_law_1089 : decode cL_law 1089 = .ok (.iadd, 1) := by decide +kernel
theorem dL_law_1090 : decode cL_law 1090 = .ok (.iaload, 1) := by decide +kernel
theorem dL_law_1091 : decode cL_law 1091 = .ok (.aload_n 3, 1) := by decide +kernel
theorem dL_law_1092 : decode cL_law 1092 = .ok (.invokestatic 139, 3) := by decide +kernel
theorem dL_law_1095 : decode cL_law 1095 = .ok (.istore 5, 2) := by decide +kernel
theorem dL_law_1097 : decode cL_law 1097 = .ok (.aload_n 2, 1) := by decide +kernel
theorem dL_law_1098 : decode cL_law 1098 = .ok (.aload_n 0, 1) := by decide +kernel
theorem dL_law_1099 : decode cL_law 1099 = .ok (.iload 4, 2) := by decide +kernel
theorem dL_law_1101 : decode cL_law 1101 = .ok (.iconst 1, 1) := by decide +kernel
theorem dL_law_1102 : decode cL_law 1102 = .ok (.iadd, 1) := by decide +kernel
theorem dL_law_1103 : decode cL_law 1103 = .ok (.iaload, 1) := by decide +kernel
theorem dL_law_1104 : decode cL_law 1104 = .ok (.invokevirtual 141, 3) := by decide +kernel
theorem dL_law_1107 : decode cL_law 1107 = .ok (.istore 6, 2) := by decide +kernel
theorem dL_law_1109 : decode cL_law 1109 = .ok (.aload_n 2, 1) := by decide +kernel
theorem dL_law_1110 : decode cL_law 1110 = .ok (.invokevirtual 96, 3) := by decide +kernel
theorem dL_law_1113 : decode cL_law 1113 = .ok (.iload 5, 2) := by decide +kernel
theorem dL_law_1115 : decode cL_law 1115 = .ok (.if_icmp .eq 5, 3) := by decide +kernel
theorem dL_law_1118 : decode cL_law 1118 = .ok (.iconst 0, 1) := by decide +kernel
theorem dL_law_1119 : decode cL_law 1119 = .ok (.ireturn, 1) := by decide +kernel
theorem dL_law_1120 : decode cL_law 1120 = .ok (.iload 5, 2) := by decide +kernel
theorem dL_law_1122 : decode cL_law 1122 = .ok (.ifCond .ne 15, 3) := by decide +kernel
theorem dL_law_1125 : decode cL_law 1125 = .ok (.aload_n 3, 1) := by decide +kernel
theorem dL_law_1126 : decode cL_law 1126 = .ok (.iconst 0, 1) := by decide +kernel
theorem dL_law_1127 : decode cL_law 1127 = .ok (.laload, 1) := by decide +kernel
theorem dL_law_1128 : decode cL_law 1128 = .ok (.iload 6, 2) := by decide +kernel
theorem dL_law_1130 : decode cL_law 1130 = .ok (.i2l, 1) := by decide +kernel
theorem dL_law_1131 : decode cL_law 1131 = .ok (.lcmp, 1) := by decide +kernel
theorem dL_law_1132 : decode cL_law 1132 = .ok (.ifCond .eq 5, 3) := by decide +kernel
theorem dL_law_1135 : decode cL_law 1135 = .ok (.iconst 0, 1) := by decide +kernel
theorem dL_law_1136 : decode cL_law 1136 = .ok (.ireturn, 1) := by decide +kernel
theorem dL_law_1137 : decode cL_law 1137 = .ok (.goto 494, 3) := by decide +kernel
theorem dL_law_1140 : decode cL_law 1140 = .ok (.aload_n 1, 1) := by decide +kernel
theorem dL_law_1141 : decode cL_law 1141 = .ok (.aload_n 0, 1) := by decide +kernel
theorem dL_law_1142 : decode cL_law 1142 = .ok (.iload 4, 2) := by decide +kernel
theorem dL_law_1144 : decode cL_law 1144 = .ok (.iconst 1, 1) := by decide +kernel
theorem dL_law_1145 : decode cL_law 1145 = .ok (.iadd, 1) := by decide +kernel
theorem dL_law_1146 : decode cL_law 1146 = .ok (.iaload, 1) := by decide +kernel
theorem dL_law_1147 : decode cL_law 1147 = .ok (.aload_n 0, 1) := by decide +kernel
theorem dL_law_1148 : decode cL_law 1148 = .ok (.iload 4, 2) := by decide +kernel
theorem dL_law_1150 : decode cL_law 1150 = .ok (.iconst 2, 1) := by decide +kernel
theorem dL_law_1151 : decode cL_law 1151 = .ok (.iadd, 1) := by decide +kernel
theorem dL_law_1152 : decode cL_law 1152 = .ok (.iaload, 1) := by decide +kernel
theorem dL_law_1153 : decode cL_law 1153 = .ok (.aload_n 3, 1) := by decide +kernel
theorem dL_law_1154 : decode cL_law 1154 = .ok (.invokestatic 142, 3) := by decide +kernel
theorem dL_law_1157 : decode cL_law 1157 = .ok (.istore 5, 2) := by decide +kernel
theorem dL_law_1159 : decode cL_law 1159 = .ok (.aload_n 2, 1) := by decide +kernel
theorem dL_law_1160 : decode cL_law 1160 = .ok (.aload_n 0, 1) := by decide +kernel
theorem dL_law_1161 : decode cL_law 1161 = .ok (.iload 4, 2) := by decide +kernel
theorem dL_law_1163 : decode cL_law 1163 = .ok (.iconst 1, 1) := by decide +kernel
theorem dL_law_1164 : decode cL_law 1164 = .ok (.iadd, 1) := by decide +kernel
theorem dL_law_1165 : decode cL_law 1165 = .ok (.iaload, 1) := by decide +kernel
theorem dL_law_1166 : decode cL_law 1166 = .ok (.aload_n 0, 1) := by decide +kernel
theorem dL_law_1167 : decode cL_law 1167 = .ok (.iload 4, 2) := by decide +kernel
theorem dL_law_1169 : decode cL_law 1169 = .ok (.iconst 2, 1) := by decide +kernel
theorem dL_law_1170 : decode cL_law 1170 = .ok (.iadd, 1) := by decide +kernel
theorem dL_law_1171 : decode cL_law 1171 = .ok (.iaload, 1) := by decide +kernel
theorem dL_law_1172 : decode cL_law 1172 = .ok (.invokevirtual 144, 3) := by decide +kernel
theorem dL_law_1175 : decode cL_law 1175 = .ok (.istore 6, 2) := by decide +kernel
theorem dL_law_1177 : decode cL_law 1177 = .ok (.aload_n 2, 1) := by decide +kernel
theorem dL_law_1178 : decode cL_law 1178 = .ok (.invokevirtual 96, 3) := by decide +kernel
theorem dL_law_1181 : decode cL_law 1181 = .ok (.iload 5, 2) := by decide +kernel
theorem dL_law_1183 : decode cL_law 1183 = .ok (.if_icmp .eq 5, 3) := by decide +kernel
theorem dL_law_1186 : decode cL_law 1186 = .ok (.iconst 0, 1) := by decide +kernel
theorem dL_law_1187 : decode cL_law 1187 = .ok (.ireturn, 1) := by decide +kernel
theorem dL_law_1188 : decode cL_law 1188 = .ok (.iload 5, 2) := by decide +kernel
theorem dL_law_1190 : decode cL_law 1190 = .ok (.ifCond .ne 15, 3) := by decide +kernel
theorem dL_law_1193 : decode cL_law 1193 = .ok (.aload_n 3, 1) := by decide +kernel
theorem dL_law_1194 : decode cL_law 1194 = .ok (.iconst 0, 1) := by decide +kernel
theorem dL_law_1195 : decode cL_law 1195 = .ok (.laload, 1) := by decide +kernel
theorem dL_law_1196 : decode cL_law 1196 = .ok (.iload 6, 2) := by decide +kernel
theorem dL_law_1198 : decode cL_law 1198 = .ok (.i2l, 1) := by decide +kernel
theorem dL_law_1199 : decode cL_law 1199 = .ok (.lcmp, 1) := by decide +kernel
theorem dL_law_1200 : decode cL_law 1200 = .ok (.ifCond .eq 5, 3) := by decide +kernel
theorem dL_law_1203 : decode cL_law 1203 = .ok (.iconst 0, 1) := by decide +kernel
theorem dL_law_1204 : decode cL_law 1204 = .ok (.ireturn, 1) := by decide +kernel
theorem dL_law_1205 : decode cL_law 1205 = .ok (.goto 426, 3) := by decide +kernel
theorem dL_law_1208 : decode cL_law 1208 = .ok (.aload_n 1, 1) := by decide +kernel
theorem dL_law_1209 : decode cL_law 1209 = .ok (.aload_n 0, 1) := by decide +kernel
theorem dL_law_1210 : decode cL_law 1210 = .ok (.iload 4, 2) := by decide +kernel
theorem dL_law_1212 : decode cL_law 1212 = .ok (.iconst 1, 1) := by decide +kernel
theorem dL_law_1213 : decode cL_law 1213 = .ok (.iadd, 1) := by decide +kernel
theorem dL_law_1214 : decode cL_law 1214 = .ok (.iaload, 1) := by decide +kernel
theorem dL_law_1215 : decode cL_law 1215 = .ok (.aload_n 3, 1) := by decide +kernel
theorem dL_law_1216 : decode cL_law 1216 = .ok (.invokestatic 145, 3) := by decide +kernel
theorem dL_law_1219 : decode cL_law 1219 = .ok (.istore 5, 2) := by decide +kernel
theorem dL_law_1221 : decode cL_law 1221 = .ok (.aload_n 2, 1) := by decide +kernel
theorem dL_law_1222 : decode cL_law 1222 = .ok (.aload_n 0, 1) := by decide +kernel
theorem dL_law_1223 : decode cL_law 1223 = .ok (.iload 4, 2) := by decide +kernel
theorem dL_law_1225 : decode cL_law 1225 = .ok (.iconst 1, 1) := by decide +kernel
theorem dL_law_1226 : decode cL_law 1226 = .ok (.iadd, 1) := by decide +kernel
theorem dL_law_1227 : decode cL_law 1227 = .ok (.iaload, 1) := by decide +kernel
theorem dL_law_1228 : decode cL_law 1228 = .ok (.invokevirtual 147, 3) := by decide +kernel
theorem dL_law_1231 : decode cL_law 1231 = .ok (.istore 6, 2) := by decide +kernel
theorem dL_law_1233 : decode cL_law 1233 = .ok (.aload_n 2, 1) := by decide +kernel
theorem dL_law_1234 : decode cL_law 1234 = .ok (.invokevirtual 96, 3) := by decide +kernel
theorem dL_law_1237 : decode cL_law 1237 = .ok (.iload 5, 2) := by decide +kernel
theorem dL_law_1239 : decode cL_law 1239 = .ok (.if_icmp .eq 5, 3) := by decide +kernel
theorem dL_law_1242 : decode cL_law 1242 = .ok (.iconst 0, 1) := by decide +kernel
theorem dL_law_1243 : decode cL_law 1243 = .ok (.ireturn, 1) := by decide +kernel
theorem dL_law_1244 : decode cL_law 1244 = .ok (.iload 5, 2) := by decide +kernel
theorem dL_law_1246 : decode cL_law 1246 = .ok (.ifCond .ne 15, 3) := by decide +kernel
theorem dL_law_1249 : decode cL_law 1249 = .ok (.aload_n 3, 1) := by decide +kernel
theorem dL_law_1250 : decode cL_law 1250 = .ok (.iconst 0, 1) := by decide +kernel
theorem dL_law_1251 : decode cL_law 1251 = .ok (.laload, 1) := by decide +kernel
theorem dL_law_1252 : decode cL_law 1252 = .ok (.iload 6, 2) := by decide +kernel
theorem dL_law_1254 : decode cL_law 1254 = .ok (.i2l, 1) := by decide +kernel
theorem dL_law_1255 : decode cL_law 1255 = .ok (.lcmp, 1) := by decide +kernel
theorem dL_law_1256 : decode cL_law 1256 = .ok (.ifCond .eq 5, 3) := by decide +kernel
theorem dL_law_1259 : decode cL_law 1259 = .ok (.iconst 0, 1) := by decide +kernel
theorem dL_law_1260 : decode cL_law 1260 = .ok (.ireturn, 1) := by decide +kernel
theorem dL_law_1261 : decode cL_law 1261 = .ok (.goto 370, 3) := by decide +kernel
theorem dL_law_1264 : decode cL_law 1264 = .ok (.aload_n 1, 1) := by decide +kernel
theorem dL_law_1265 : decode cL_law 1265 = .ok (.aload_n 0, 1) := by decide +kernel
theorem dL_law_1266 : decode cL_law 1266 = .ok (.iload 4, 2) := by decide +kernel
theorem dL_law_1268 : decode cL_law 1268 = .ok (.iconst 1, 1) := by decide +kernel
theorem dL_law_1269 : decode cL_law 1269 = .ok (.iadd, 1) := by decide +kernel
theorem dL_law_1270 : decode cL_law 1270 = .ok (.iaload, 1) := by decide +kernel
theorem dL_law_1271 : decode cL_law 1271 = .ok (.aload_n 0, 1) := by decide +kernel
theorem dL_law_1272 : decode cL_law 1272 = .ok (.iload 4, 2) := by decide +kernel
theorem dL_law_1274 : decode cL_law 1274 = .ok (.iconst 2, 1) := by decide +kernel
theorem dL_law_1275 : decode cL_law 1275 = .ok (.iadd, 1) := by decide +kernel
theorem dL_law_1276 : decode cL_law 1276 = .ok (.iaload, 1) := by decide +kernel
theorem dL_law_1277 : decode cL_law 1277 = .ok (.aload_n 3, 1) := by decide +kernel
theorem dL_law_1278 : decode cL_law 1278 = .ok (.invokestatic 148, 3) := by decide +kernel
theorem dL_law_1281 : decode cL_law 1281 = .ok (.istore 5, 2) := by decide +kernel
theorem dL_law_1283 : decode cL_law 1283 = .ok (.aload_n 2, 1) := by decide +kernel
theorem dL_law_1284 : decode cL_law 1284 = .ok (.aload_n 0, 1) := by decide +kernel
theorem dL_law_1285 : decode cL_law 1285 = .ok (.iload 4, 2) := by decide +kernel
theorem dL_law_1287 : decode cL_law 1287 = .ok (.iconst 1, 1) := by decide +kernel
theorem dL_law_1288 : decode cL_law 1288 = .ok (.iadd, 1) := by decide +kernel
theorem dL_law_1289 : decode cL_law 1289 = .ok (.iaload, 1) := by decide +kernel
theorem dL_law_1290 : decode cL_law 1290 = .ok (.aload_n 0, 1) := by decide +kernel
theorem dL_law_1291 : decode cL_law 1291 = .ok (.iload 4, 2) := by decide +kernel
theorem dL_law_1293 : decode cL_law 1293 = .ok (.iconst 2, 1) := by decide +kernel
theorem dL_law_1294 : decode cL_law 1294 = .ok (.iadd, 1) := by decide +kernel
theorem dL_law_1295 : decode cL_law 1295 = .ok (.iaload, 1) := by decide +kernel
theorem dL_law_1296 : decode cL_law 1296 = .ok (.invokevirtual 150, 3) := by decide +kernel
theorem dL_law_1299 : decode cL_law 1299 = .ok (.istore 6, 2) := by decide +kernel
theorem dL_law_1301 : decode cL_law 1301 = .ok (.aload_n 2, 1) := by decide +kernel
theorem dL_law_1302 : decode cL_law 1302 = .ok (.invokevirtual 96, 3) := by decide +kernel
theorem dL_law_1305 : decode cL_law 1305 = .ok (.iload 5, 2) := by decide +kernel
theorem dL_law_1307 : decode cL_law 1307 = .ok (.if_icmp .eq 5, 3) := by decide +kernel
theorem dL_law_1310 : decode cL_law 1310 = .ok (.iconst 0, 1) := by decide +kernel
theorem dL_law_1311 : decode cL_law 1311 = .ok (.ireturn, 1) := by decide +kernel
theorem dL_law_1312 : decode cL_law 1312 = .ok (.iload 5, 2) := by decide +kernel
theorem dL_law_1314 : decode cL_law 1314 = .ok (.ifCond .ne 15, 3) := by decide +kernel
theorem dL_law_1317 : decode cL_law 1317 = .ok (.aload_n 3, 1) := by decide +kernel
theorem dL_law_1318 : decode cL_law 1318 = .ok (.iconst 0, 1) := by decide +kernel
theorem dL_law_1319 : decode cL_law 1319 = .ok (.laload, 1) := by decide +kernel
theorem dL_law_1320 : decode cL_law 1320 = .ok (.iload 6, 2) := by decide +kernel
theorem dL_law_1322 : decode cL_law 1322 = .ok (.i2l, 1) := by decide +kernel
theorem dL_law_1323 : decode cL_law 1323 = .ok (.lcmp, 1) := by decide +kernel
theorem dL_law_1324 : decode cL_law 1324 = .ok (.ifCond .eq 5, 3) := by decide +kernel
theorem dL_law_1327 : decode cL_law 1327 = .ok (.iconst 0, 1) := by decide +kernel
theorem dL_law_1328 : decode cL_law 1328 = .ok (.ireturn, 1) := by decide +kernel
theorem dL_law_1329 : decode cL_law 1329 = .ok (.goto 302, 3) := by decide +kernel
theorem dL_law_1332 : decode cL_law 1332 = .ok (.aload_n 1, 1) := by decide +kernel
theorem dL_law_1333 : decode cL_law 1333 = .ok (.aload_n 0, 1) := by decide +kernel
theorem dL_law_1334 : decode cL_law 1334 = .ok (.iload 4, 2) := by decide +kernel
theorem dL_law_1336 : decode cL_law 1336 = .ok (.iconst 1, 1) := by decide +kernel
theorem dL_law_1337 : decode cL_law 1337 = .ok (.iadd, 1) := by decide +kernel
theorem dL_law_1338 : decode cL_law 1338 = .ok (.iaload, 1) := by decide +kernel
theorem dL_law_1339 : decode cL_law 1339 = .ok (.aload_n 0, 1) := by decide +kernel
theorem dL_law_1340 : decode cL_law 1340 = .ok (.iload 4, 2) := by decide +kernel
theorem dL_law_1342 : decode cL_law 1342 = .ok (.iconst 2, 1) := by decide +kernel
theorem dL_law_1343 : decode cL_law 1343 = .ok (.iadd, 1) := by decide +kernel
theorem dL_law_1344 : decode cL_law 1344 = .ok (.iaload, 1) := by decide +kernel
theorem dL_law_1345 : decode cL_law 1345 = .ok (.aload_n 3, 1) := by decide +kernel
theorem dL_law_1346 : decode cL_law 1346 = .ok (.invokestatic 151, 3) := by decide +kernel
theorem dL_law_1349 : decode cL_law 1349 = .ok (.istore 5, 2) := by decide +kernel
theorem dL_law_1351 : decode cL_law 1351 = .ok (.aload_n 2, 1) := by decide +kernel
theorem dL_law_1352 : decode cL_law 1352 = .ok (.aload_n 0, 1) := by decide +kernel
theorem dL_law_1353 : decode cL_law 1353 = .ok (.iload 4, 2) := by decide +kernel
theorem dL_law_1355 : decode cL_law 1355 = .ok (.iconst 1, 1) := by decide +kernel
theorem dL_law_1356 : decode cL_law 1356 = .ok (.iadd, 1) := by decide +kernel
theorem dL_law_1357 : decode cL_law 1357 = .ok (.iaload, 1) := by decide +kernel
theorem dL_law_1358 : decode cL_law 1358 = .ok (.aload_n 0, 1) := by decide +kernel
theorem dL_law_1359 : decode cL_law 1359 = .ok (.iload 4, 2) := by decide +kernel
theorem dL_law_1361 : decode cL_law 1361 = .ok (.iconst 2, 1) := by decide +kernel
theorem dL_law_1362 : decode cL_law 1362 = .ok (.iadd, 1) := by decide +kernel
theorem dL_law_1363 : decode cL_law 1363 = .ok (.iaload, 1) := by decide +kernel
theorem dL_law_1364 : decode cL_law 1364 = .ok (.invokevirtual 153, 3) := by decide +kernel
theorem dL_law_1367 : decode cL_law 1367 = .ok (.istore 6, 2) := by decide +kernel
theorem dL_law_1369 : decode cL_law 1369 = .ok (.aload_n 2, 1) := by decide +kernel
theorem dL_law_1370 : decode cL_law 1370 = .ok (.invokevirtual 96, 3) := by decide +kernel
theorem dL_law_1373 : decode cL_law 1373 = .ok (.iload 5, 2) := by decide +kernel
theorem dL_law_1375 : decode cL_law 1375 = .ok (.if_icmp .eq 5, 3) := by decide +kernel
theorem dL_law_1378 : decode cL_law 1378 = .ok (.iconst 0, 1) := by decide +kernel
theorem dL_law_1379 : decode cL_law 1379 = .ok (.ireturn, 1) := by decide +kernel
theorem dL_law_1380 : decode cL_law 1380 = .ok (.iload 5, 2) := by decide +kernel
theorem dL_law_1382 : decode cL_law 1382 = .ok (.ifCond .ne 22, 3) := by decide +kernel
theorem dL_law_1385 : decode cL_law 1385 = .ok (.aload_n 3, 1) := by decide +kernel
theorem dL_law_1386 : decode cL_law 1386 = .ok (.iconst 0, 1) := by decide +kernel
theorem dL_law_1387 : decode cL_law 1387 = .ok (.laload, 1) := by decide +kernel
theorem dL_law_1388 : decode cL_law 1388 = .ok (.iload 6, 2) := by decide +kernel
theorem dL_law_1390 : decode cL_law 1390 = .ok (.ifCond .eq 7, 3) := by decide +kernel
theorem dL_law_1393 : decode cL_law 1393 = .ok (.lconst 1, 1) := by decide +kernel
theorem dL_law_1394 : decode cL_law 1394 = .ok (.goto 4, 3) := by decide +kernel
theorem dL_law_1397 : decode cL_law 1397 = .ok (.lconst 0, 1) := by decide +kernel
theorem dL_law_1398 : decode cL_law 1398 = .ok (.lcmp, 1) := by decide +kernel
theorem dL_law_1399 : decode cL_law 1399 = .ok (.ifCond .eq 5, 3) := by decide +kernel
theorem dL_law_1402 : decode cL_law 1402 = .ok (.iconst 0, 1) := by decide +kernel
theorem dL_law_1403 : decode cL_law 1403 = .ok (.ireturn, 1) := by decide +kernel
theorem dL_law_1404 : decode cL_law 1404 = .ok (.goto 227, 3) := by decide +kernel
theorem dL_law_1407 : decode cL_law 1407 = .ok (.aload_n 1, 1) := by decide +kernel
theorem dL_law_1408 : decode cL_law 1408 = .ok (.aload_n 0, 1) := by decide +kernel
theorem dL_law_1409 : decode cL_law 1409 = .ok (.iload 4, 2) := by decide +kernel
theorem dL_law_1411 : decode cL_law 1411 = .ok (.iconst 1, 1) := by decide +kernel
theorem dL_law_1412 : decode cL_law 1412 = .ok (.iadd, 1) := by decide +kernel
theorem dL_law_1413 : decode cL_law 1413 = .ok (.iaload, 1) := by decide +kernel
theorem dL_law_1414 : decode cL_law 1414 = .ok (.aload_n 3, 1) := by decide +kernel
theorem dL_law_1415 : decode cL_law 1415 = .ok (.invokestatic 154, 3) := by decide +kernel
theorem dL_law_1418 : decode cL_law 1418 = .ok (.istore 5, 2) := by decide +kernel
theorem dL_law_1420 : decode cL_law 1420 = .ok (.aload_n 2, 1) := by decide +kernel
theorem dL_law_1421 : decode cL_law 1421 = .ok (.aload_n 0, 1) := by decide +kernel
theorem dL_law_1422 : decode cL_law 1422 = .ok (.iload 4, 2) := by decide +kernel
theorem dL_law_1424 : decode cL_law 1424 = .ok (.iconst 1, 1) := by decide +kernel
theorem dL_law_1425 : decode cL_law 1425 = .ok (.iadd, 1) := by decide +kernel
theorem dL_law_1426 : decode cL_law 1426 = .ok (.iaload, 1) := by decide +kernel
theorem dL_law_1427 : decode cL_law 1427 = .ok (.invokevirtual 156, 3) := by decide +kernel
theorem dL_law_1430 : decode cL_law 1430 = .ok (.istore 6, 2) := by decide +kernel
theorem dL_law_1432 : decode cL_law 1432 = .ok (.aload_n 2, 1) := by decide +kernel
theorem dL_law_1433 : decode cL_law 1433 = .ok (.invokevirtual 96, 3) := by decide +kernel
theorem dL_law_1436 : decode cL_law 1436 = .ok (.iload 5, 2) := by decide +kernel
theorem dL_law_1438 : decode cL_law 1438 = .ok (.if_icmp .eq 5, 3) := by decide +kernel
theorem dL_law_1441 : decode cL_law 1441 = .ok (.iconst 0, 1) := by decide +kernel
theorem dL_law_1442 : decode cL_law 1442 = .ok (.ireturn, 1) := by decide +kernel
theorem dL_law_1443 : decode cL_law 1443 = .ok (.iload 5, 2) := by decide +kernel
theorem dL_law_1445 : decode cL_law 1445 = .ok (.ifCond .ne 15, 3) := by decide +kernel
theorem dL_law_1448 : decode cL_law 1448 = .ok (.aload_n 3, 1) := by decide +kernel
theorem dL_law_1449 : decode cL_law 1449 = .ok (.iconst 0, 1) := by decide +kernel
theorem dL_law_1450 : decode cL_law 1450 = .ok (.laload, 1) := by decide +kernel
theorem dL_law_1451 : decode cL_law 1451 = .ok (.iload 6, 2) := by decide +kernel
theorem dL_law_1453 : decode cL_law 1453 = .ok (.i2l, 1) := by decide +kernel
theorem dL_law_1454 : decode cL_law 1454 = .ok (.lcmp, 1) := by decide +kernel
theorem dL_law_1455 : decode cL_law 1455 = .ok (.ifCond .eq 5, 3) := by decide +kernel
theorem dL_law_1458 : decode cL_law 1458 = .ok (.iconst 0, 1) := by decide +kernel
theorem dL_law_1459 : decode cL_law 1459 = .ok (.ireturn, 1) := by decide +kernel
theorem dL_law_1460 : decode cL_law 1460 = .ok (.goto 171, 3) := by decide +kernel
theorem dL_law_1463 : decode cL_law 1463 = .ok (.aload_n 1, 1) := by decide +kernel
theorem dL_law_1464 : decode cL_law 1464 = .ok (.aload_n 0, 1) := by decide +kernel
theorem dL_law_1465 : decode cL_law 1465 = .ok (.iload 4, 2) := by decide +kernel
theorem dL_law_1467 : decode cL_law 1467 = .ok (.iconst 1, 1) := by decide +kernel
theorem dL_law_1468 : decode cL_law 1468 = .ok (.iadd, 1) := by decide +kernel
theorem dL_law_1469 : decode cL_law 1469 = .ok (.iaload, 1) := by decide +kernel
theorem dL_law_1470 : decode cL_law 1470 = .ok (.aload_n 3, 1) := by decide +kernel
theorem dL_law_1471 : decode cL_law 1471 = .ok (.invokestatic 157, 3) := by decide +kernel
theorem dL_law_1474 : decode cL_law 1474 = .ok (.istore 5, 2) := by decide +kernel
theorem dL_law_1476 : decode cL_law 1476 = .ok (.aload_n 2, 1) := by decide +kernel
theorem dL_law_1477 : decode cL_law 1477 = .ok (.aload_n 0, 1) := by decide +kernel
theorem dL_law_1478 : decode cL_law 1478 = .ok (.iload 4, 2) := by decide +kernel
theorem dL_law_1480 : decode cL_law 1480 = .ok (.iconst 1, 1) := by decide +kernel
theorem dL_law_1481 : decode cL_law 1481 = .ok (.iadd, 1) := by decide +kernel
theorem dL_law_1482 : decode cL_law 1482 = .ok (.iaload, 1) := by decide +kernel
theorem dL_law_1483 : decode cL_law 1483 = .ok (.invokevirtual 159, 3) := by decide +kernel
theorem dL_law_1486 : decode cL_law 1486 = .ok (.istore 6, 2) := by decide +kernel
theorem dL_law_1488 : decode cL_law 1488 = .ok (.aload_n 2, 1) := by decide +kernel
theorem dL_law_1489 : decode cL_law 1489 = .ok (.invokevirtual 96, 3) := by decide +kernel
theorem dL_law_1492 : decode cL_law 1492 = .ok (.iload 5, 2) := by decide +kernel
theorem dL_law_1494 : decode cL_law 1494 = .ok (.if_icmp .eq 5, 3) := by decide +kernel
theorem dL_law_1497 : decode cL_law 1497 = .ok (.iconst 0, 1) := by decide +kernel
theorem dL_law_1498 : decode cL_law 1498 = .ok (.ireturn, 1) := by decide +kernel
theorem dL_law_1499 : decode cL_law 1499 = .ok (.iload 5, 2) := by decide +kernel
theorem dL_law_1501 : decode cL_law 1501 = .ok (.ifCond .ne 15, 3) := by decide +kernel
theorem dL_law_1504 : decode cL_law 1504 = .ok (.aload_n 3, 1) := by decide +kernel
theorem dL_law_1505 : decode cL_law 1505 = .ok (.iconst 0, 1) := by decide +kernel
theorem dL_law_1506 : decode cL_law 1506 = .ok (.laload, 1) := by decide +kernel
theorem dL_law_1507 : decode cL_law 1507 = .ok (.iload 6, 2) := by decide +kernel
theorem dL_law_1509 : decode cL_law 1509 = .ok (.i2l, 1) := by decide +kernel
theorem dL_law_1510 : decode cL_law 1510 = .ok (.lcmp, 1) := by decide +kernel
theorem dL_law_1511 : decode cL_law 1511 = .ok (.ifCond .eq 5, 3) := by decide +kernel
theorem dL_law_1514 : decode cL_law 1514 = .ok (.iconst 0, 1) := by decide +kernel
theorem dL_law_1515 : decode cL_law 1515 = .ok (.ireturn, 1) := by decide +kernel
theorem dL_law_1516 : decode cL_law 1516 = .ok (.goto 115, 3) := by decide +kernel
theorem dL_law_1519 : decode cL_law 1519 = .ok (.aload_n 1, 1) := by decide +kernel
theorem dL_law_1520 : decode cL_law 1520 = .ok (.aload_n 0, 1) := by decide +kernel
theorem dL_law_1521 : decode cL_law 1521 = .ok (.iload 4, 2) := by decide +kernel
theorem dL_law_1523 : decode cL_law 1523 = .ok (.iconst 1, 1) := by decide +kernel
theorem dL_law_1524 : decode cL_law 1524 = .ok (.iadd, 1) := by decide +kernel
theorem dL_law_1525 : decode cL_law 1525 = .ok (.iaload, 1) := by decide +kernel
theorem dL_law_1526 : decode cL_law 1526 = .ok (.aload_n 3, 1) := by decide +kernel
theorem dL_law_1527 : decode cL_law 1527 = .ok (.invokestatic 160, 3) := by decide +kernel
theorem dL_law_1530 : decode cL_law 1530 = .ok (.istore 5, 2) := by decide +kernel
theorem dL_law_1532 : decode cL_law 1532 = .ok (.aload_n 2, 1) := by decide +kernel
theorem dL_law_1533 : decode cL_law 1533 = .ok (.aload_n 0, 1) := by decide +kernel
theorem dL_law_1534 : decode cL_law 1534 = .ok (.iload 4, 2) := by decide +kernel
theorem dL_law_1536 : decode cL_law 1536 = .ok (.iconst 1, 1) := by decide +kernel
theorem dL_law_1537 : decode cL_law 1537 = .ok (.iadd, 1) := by decide +kernel
theorem dL_law_1538 : decode cL_law 1538 = .ok (.iaload, 1) := by decide +kernel
theorem dL_law_1539 : decode cL_law 1539 = .ok (.invokevirtual 162, 3) := by decide +kernel
theorem dL_law_1542 : decode cL_law 1542 = .ok (.istore 6, 2) := by decide +kernel
theorem dL_law_1544 : decode cL_law 1544 = .ok (.aload_n 2, 1) := by decide +kernel
theorem dL_law_1545 : decode cL_law 1545 = .ok (.invokevirtual 96, 3) := by decide +kernel
theorem dL_law_1548 : decode cL_law 1548 = .ok (.iload 5, 2) := by decide +kernel
theorem dL_law_1550 : decode cL_law 1550 = .ok (.if_icmp .eq 5, 3) := by decide +kernel
theorem dL_law_1553 : decode cL_law 1553 = .ok (.iconst 0, 1) := by decide +kernel
theorem dL_law_1554 : decode cL_law 1554 = .ok (.ireturn, 1) := by decide +kernel
theorem dL_law_1555 : decode cL_law 1555 = .ok (.iload 5, 2) := by decide +kernel
theorem dL_law_1557 : decode cL_law 1557 = .ok (.ifCond .ne 15, 3) := by decide +kernel
theorem dL_law_1560 : decode cL_law 1560 = .ok (.aload_n 3, 1) := by decide +kernel
theorem dL_law_1561 : decode cL_law 1561 = .ok (.iconst 0, 1) := by decide +kernel
theorem dL_law_1562 : decode cL_law 1562 = .ok (.laload, 1) := by decide +kernel
theorem dL_law_1563 : decode cL_law 1563 = .ok (.iload 6, 2) := by decide +kernel
theorem dL_law_1565 : decode cL_law 1565 = .ok (.i2l, 1) := by decide +kernel
theorem dL_law_1566 : decode cL_law 1566 = .ok (.lcmp, 1) := by decide +kernel
theorem dL_law_1567 : decode cL_law 1567 = .ok (.ifCond .eq 5, 3) := by decide +kernel
theorem dL_law_1570 : decode cL_law 1570 = .ok (.iconst 0, 1) := by decide +kernel
theorem dL_law_1571 : decode cL_law 1571 = .ok (.ireturn, 1) := by decide +kernel
theorem dL_law_1572 : decode cL_law 1572 = .ok (.goto 59, 3) := by decide +kernel
theorem dL_law_1575 : decode cL_law 1575 = .ok (.aload_n 1, 1) := by decide +kernel
theorem dL_law_1576 : decode cL_law 1576 = .ok (.aload_n 0, 1) := by decide +kernel
theorem dL_law_1577 : decode cL_law 1577 = .ok (.iload 4, 2) := by decide +kernel
theorem dL_law_1579 : decode cL_law 1579 = .ok (.iconst 1, 1) := by decide +kernel
theorem dL_law_1580 : decode cL_law 1580 = .ok (.iadd, 1) := by decide +kernel
theorem dL_law_1581 : decode cL_law 1581 = .ok (.iaload, 1) := by decide +kernel
theorem dL_law_1582 : decode cL_law 1582 = .ok (.aload_n 3, 1) := by decide +kernel
theorem dL_law_1583 : decode cL_law 1583 = .ok (.invokestatic 163, 3) := by decide +kernel
theorem dL_law_1586 : decode cL_law 1586 = .ok (.istore 5, 2) := by decide +kernel
theorem dL_law_1588 : decode cL_law 1588 = .ok (.aload_n 2, 1) := by decide +kernel
theorem dL_law_1589 : decode cL_law 1589 = .ok (.aload_n 0, 1) := by decide +kernel
theorem dL_law_1590 : decode cL_law 1590 = .ok (.iload 4, 2) := by decide +kernel
theorem dL_law_1592 : decode cL_law 1592 = .ok (.iconst 1, 1) := by decide +kernel
theorem dL_law_1593 : decode cL_law 1593 = .ok (.iadd, 1) := by decide +kernel
theorem dL_law_1594 : decode cL_law 1594 = .ok (.iaload, 1) := by decide +kernel
theorem dL_law_1595 : decode cL_law 1595 = .ok (.invokevirtual 165, 3) := by decide +kernel
theorem dL_law_1598 : decode cL_law 1598 = .ok (.istore 6, 2) := by decide +kernel
theorem dL_law_1600 : decode cL_law 1600 = .ok (.aload_n 2, 1) := by decide +kernel
theorem dL_law_1601 : decode cL_law 1601 = .ok (.invokevirtual 96, 3) := by decide +kernel
theorem dL_law_1604 : decode cL_law 1604 = .ok (.iload 5, 2) := by decide +kernel
theorem dL_law_1606 : decode cL_law 1606 = .ok (.if_icmp .eq 5, 3) := by decide +kernel
theorem dL_law_1609 : decode cL_law 1609 = .ok (.iconst 0, 1) := by decide +kernel
theorem dL_law_1610 : decode cL_law 1610 = .ok (.ireturn, 1) := by decide +kernel
theorem dL_law_1611 : decode cL_law 1611 = .ok (.iload 5, 2) := by decide +kernel
theorem dL_law_1613 : decode cL_law 1613 = .ok (.ifCond .ne 15, 3) := by decide +kernel
theorem dL_law_1616 : decode cL_law 1616 = .ok (.aload_n 3, 1) := by decide +kernel
theorem dL_law_1617 : decode cL_law 1617 = .ok (.iconst 0, 1) := by decide +kernel
theorem dL_law_1618 : decode cL_law 1618 = .ok (.laload, 1) := by decide +kernel
theorem dL_law_1619 : decode cL_law 1619 = .ok (.iload 6, 2) := by decide +kernel
theorem dL_law_1621 : decode cL_law 1621 = .ok (.i2l, 1) := by decide +kernel
end
section
theorem dL_law_1622 : decode cL_law 1622 = .ok (.lcmp, 1) := by decide +kernel
theorem dL_law_1623 : decode cL_law 1623 = .ok (.ifCond .eq 5, 3) := by decide +kernel
theorem dL_law_1626 : decode cL_law 1626 = .ok (.iconst 0, 1) := by decide +kernel
theorem dL_law_1627 : decode cL_law 1627 = .ok (.ireturn, 1) := by decide +kernel
theorem dL_law_1628 : decode cL_law 1628 = .ok (.goto 3, 3) := by decide +kernel
theorem dL_law_1631 : decode cL_law 1631 = .ok (.iinc 4 6, 3) := by decide +kernel
theorem dL_law_1634 : decode cL_law 1634 = .ok (.goto (-1611), 3) := by decide +kernel
theorem dL_law_1637 : decode cL_law 1637 = .ok (.iconst 1, 1) := by decide +kernel
theorem dL_law_1638 : decode cL_law 1638 = .ok (.ireturn, 1) := by decide +kernel
end
section
/-! THE WORLD OF A RUN: codes (k, i) stand for cells; 'xa' says where each lies, 'G' what it holds (none: no such cell yet). -/
abbrev xD : Type := va_G × (Nat → ClassId)
abbrev xG : Type := Nat → Nat → Option va_E
abbrev xA : Type := Nat → Nat → Nat
abbrev xtys (D : xD) : List (ClassId × FieldType) := [(D.2 0, .object "Restitutory$Person"), (D.2 1, .object "Restitutory$Persecution"), (D.2 2, .object "Restitutory$Thing"), (D.2 3, .object "Restitutory$Station"), (D.2 4, .int), (D.2 5, .boolean), (D.2 6, .long)]
def xup (G : xG) (k i : Nat) (e : va_E) : xG := fun k' i' => if k' = k ∧ i' = i then some e else G k' i'
def xaup (xa : xA) (k i q : Nat) : xA := fun k' i' => if k' = k ∧ i' = i then q else xa k' i'
theorem xup_self (G : xG) (k i : Nat) (e : va_E) : xup G k i e k i = some e := by simp [xup]
theorem xup_ne (G : xG) {k i k' i' : Nat} (e : va_E) (h : ¬ (k' = k ∧ i' = i)) : xup G k i e k' i' = G k' i' := by simp [xup, h]
theorem xaup_self (xa : xA) (k i q : Nat) : xaup xa k i q k i = q := by simp [xaup]
theorem xaup_ne (xa : xA) {k i k' i' : Nat} (q : Nat) (h : ¬ (k' = k ∧ i' = i)) : xaup xa k i q k' i' = xa k' i' := by simp [xaup, h]
def xWp (D : xD) (xa : xA) (G : xG) (H : Heap) : Prop := (∀ (k i : Nat) (e : va_E), G k i = some e → va_at D.1 vwCl (xa k i, e) H) ∧ ∀ k i k' i' : Nat, G k i ≠ none → G k' i' ≠ none → xa k i = xa k' i' → k = k' ∧ i = i'
def xAw (xa : xA) (G : xG) (sz : Nat) : Nat → Prop := fun q => (∃ k i : Nat, G k i ≠ none ∧ xa k i = q) ∨ sz ≤ q
def xStrs : List (Nat × String) := [(44, "there are 12 people"), (60, "the person is dead"), (64, "nobody is an heir of oneself"), (77, "the heir was told"), (89, "there are 20 persecutions"), (98, "there are 10 things"), (111, "the thing has 8 stations"), (133, "the station is not BOUGHT"), (159, "there is no place below 0"), (190, "there is no such group"), (192, "there is no such land"), (194, "an argument is out of its range"), (196, "there is no such person"), (198, "there is no such thing"), (200, "there is no such station")]
def xIob : String := "java/lang/IndexOutOfBoundsException"
def xIse : String := "java/lang/IllegalStateException"
def xIae : String := "java/lang/IllegalArgumentException"
def xExc : List String := [xIob, xIse, xIae]
def xDec : List String := ["java/lang/RuntimeException", "java/lang/Exception", Bundle.tN]
def xEv (sa : Nat → Nat) (A : Nat → Prop) (U : State) (H : Heap) : Prop := vx_Zq Bundle.tN "UNASSIGNED_STACK" Bundle.steD A U H ∧ vx_Zq Bundle.tN "SUPPRESSED_SENTINEL" Bundle.listD A U H ∧ (∀ q ∈ xStrs, vk_R RX4 q.1 q.2 (sa q.1) U) ∧ (∀ E ∈ xExc, va_Nw (.castable E E) U) ∧ (∀ y ∈ xDec, va_Nw (.declares (Bundle.initS y)) U) ∧ ∀ E ∈ xExc, ∀ F ∈ xExc, E ≠ F → va_Nc E F U
/-- what holds in a walk: the cells, apart, what may be written, the tables, what a throw needs -/
def xW (D : xD) (sa : Nat → Nat) (A : Nat → Prop) (s : State) (xa : xA) (G : xG) (H : Heap) (locs : List Loc) : Prop :=
  xWp D xa G H ∧ (∀ k i : Nat, G k i ≠ none → A (xa k i)) ∧ (∀ q, s.heap.size ≤ q → A q) ∧ va_S A s.heap H locs ∧ va_K D.1 vwCl (xtys D) s ∧ xEv sa A s s.heap
/-- a method's start -/
def xPs (D : xD) (sa : Nat → Nat) (xa : xA) (G : xG) (sz : Nat) : State → Prop := fun U => U.heap.size = sz ∧ xWp D xa G U.heap ∧ va_K D.1 vwCl (xtys D) U ∧ xEv sa (xAw xa G sz) U U.heap
/-- a method's end -/
def xB (D : xD) (A : Nat → Prop) (u : xA × xG) (t : State) : Prop := xWp D u.1 u.2 t.heap ∧ (∀ k i : Nat, u.2 k i ≠ none → A (u.1 k i)) ∧ va_K D.1 vwCl (xtys D) t
def xX (D : xD) (A : Nat → Prop) (xa : xA) (G : xG) (pex : String → Prop) : String → State → State → Prop := vx_X (fun _ : xA × xG => True) (fun E u t => pex E ∧ u = (xa, G) ∧ xB D A u t) A
/-- contracts: that return an int, nothing, a reference; that may throw -/
def xCi (l : Launch) (y : MethodName) (ws : List Cond) (rm : Room) (D : xD) (sa : Nat → Nat) (xa : xA) (G : xG) (av : List Value) (post : Int32 → xA × xG → Prop) (mc ms : Nat) : Prop :=
  ∀ sz : Nat, Met l y ws rm (va_Pc av (xPs D sa xa G sz)) (va_Qi post (xB D (xAw xa G sz)) (xAw xa G sz)) mc ms (xAw xa G sz)
def xCv (l : Launch) (y : MethodName) (ws : List Cond) (rm : Room) (D : xD) (sa : Nat → Nat) (xa : xA) (G : xG) (av : List Value) (post : xA × xG → Prop) (mc ms : Nat) : Prop :=
  ∀ sz : Nat, Met l y ws rm (va_Pc av (xPs D sa xa G sz)) (va_Qv post (xB D (xAw xa G sz)) (xAw xa G sz)) mc ms (xAw xa G sz)
def xCq (l : Launch) (y : MethodName) (ws : List Cond) (rm : Room) (D : xD) (sa : Nat → Nat) (xa : xA) (G : xG) (av : List Value) (post : Option Nat → xA × xG → Prop) (mc ms : Nat) : Prop :=
  ∀ sz : Nat, Met l y ws rm (va_Pc av (xPs D sa xa G sz)) (va_Qq post (xB D (xAw xa G sz)) (xAw xa G sz)) mc ms (xAw xa G sz)
def xXi (l : Launch) (y : MethodName) (ws : List Cond) (rm : Room) (D : xD) (sa : Nat → Nat) (xa : xA) (G : xG) (av : List Value) (post : Int32 → xA × xG → Prop) (pex : String → Prop) (mc ms : Nat) : Prop :=
  ∀ sz : Nat, vx_Met l y ws rm (va_Pc av (xPs D sa xa G sz)) (va_Qi post (xB D (xAw xa G sz)) (xAw xa G sz)) (xX D (xAw xa G sz) xa G pex) mc ms (xAw xa G sz)
def xXv (l : Launch) (y : MethodName) (ws : List Cond) (rm : Room) (D : xD) (sa : Nat → Nat) (xa : xA) (G : xG) (av : List Value) (post : xA × xG → Prop) (pex : String → Prop) (mc ms : Nat) : Prop :=
  ∀ sz : Nat, vx_Met l y ws rm (va_Pc av (xPs D sa xa G sz)) (va_Qv post (xB D (xAw xa G sz)) (xAw xa G sz)) (xX D (xAw xa G sz) xa G pex) mc ms (xAw xa G sz)
def xXr (l : Launch) (y : MethodName) (ws : List Cond) (rm : Room) (D : xD) (sa : Nat → Nat) (xa : xA) (G : xG) (av : List Value) (post : Nat → xA × xG → Prop) (pex : String → Prop) (mc ms : Nat) : Prop :=
  ∀ sz : Nat, vx_Met l y ws rm (va_Pc av (xPs D sa xa G sz)) (va_Qr (fun _ : xA × xG => True) (fun u a t => post a u ∧ xB D (xAw xa G sz) u t) (xAw xa G sz)) (xX D (xAw xa G sz) xa G pex) mc ms (xAw xa G sz)
theorem xEv.moved {sa : Nat → Nat} {A : Nat → Prop} {u U : State} {H : Heap} (hW : u.WarmedH U.vm) (h : xEv sa A u H) : xEv sa A U H := ⟨vx_Zq.moved hW.alike h.1, vx_Zq.moved hW.alike h.2.1, fun q hq => vk_R.warm hW (h.2.2.1 q hq), fun E hE => va_Nw.warmC hW (h.2.2.2.1 E hE), fun y hy => va_Nw.warmD hW (h.2.2.2.2.1 y hy), fun E hE F hF hn => va_Nc.moved hW.alike (h.2.2.2.2.2 E hE F hF hn)⟩
theorem xEv.kept {sa : Nat → Nat} {A : Nat → Prop} {U : State} {H H1 : Heap} (h : xEv sa A U H) (hq : ∀ a : Nat, a < H.size → ¬ A a → H1[a]? = H[a]?) : xEv sa A U H1 := ⟨h.1.kept hq, h.2.1.kept hq, h.2.2⟩
theorem xEv.narrow {sa : Nat → Nat} {A B : Nat → Prop} {U : State} {H : Heap} (h : xEv sa A U H) (hAB : ∀ q, B q → A q) : xEv sa B U H := ⟨h.1.narrow hAB, h.2.1.narrow hAB, h.2.2⟩
theorem xEv.same {sa : Nat → Nat} {A : Nat → Prop} {u U : State} {H : Heap} (hv : U.vm = u.vm) (h : xEv sa A u H) : xEv sa A U H := h.moved (by rw [hv]; exact State.WarmedH.refl u)
theorem xPs_blind {D : xD} {sa : Nat → Nat} {xa : xA} {G : xG} {sz : Nat} {av : List Value} : FrameBlind (va_Pc av (xPs D sa xa G sz)) := fun a U g mk q => by
  obtain ⟨q0, q1, q2, q3, q4⟩ := q
  exact ⟨q0, q1, q2, va_K.moved (u := U) (U := U.calling g mk a) (Vm.Alike.refl U.vm) q3, xEv.same (u := U) rfl q4⟩
section XW
variable {D : xD} {sa : Nat → Nat} {A : Nat → Prop} {s : State} {xa : xA} {G : xG} {H : Heap} {locs : List Loc}
theorem xW.sing (h : xW D sa A s xa G H locs) {k i : Nat} {e : va_E} (hG : G k i = some e) : va_P D.1 vwCl [(xa k i, e)] H := fun j q hq => by
  have hz : j < 1 := (List.getElem?_eq_some_iff.mp hq).1
  rw [show j = 0 by omega] at hq
  cases hq
  exact h.1.1 k i e hG
theorem xW.K (h : xW D sa A s xa G H locs) : va_K D.1 vwCl (xtys D) s := h.2.2.2.2.1
theorem xW.S (h : xW D sa A s xa G H locs) : va_S A s.heap H locs := h.2.2.2.1
theorem xW.lt (h : xW D sa A s xa G H locs) {k i : Nat} {e : va_E} (hG : G k i = some e) : xa k i < H.size := (h.1.1 k i e hG).lt
theorem xW.inj (h : xW D sa A s xa G H locs) {k i k' i' : Nat} {e e' : va_E} (h1 : G k i = some e) (h2 : G k' i' = some e') (he : xa k i = xa k' i') : k = k' ∧ i = i' := h.1.2 k i k' i' (by rw [h1]; exact fun z => by cases z) (by rw [h2]; exact fun z => by cases z) he
/-- a cell is written -/
theorem xW.set (h : xW D sa A s xa G H locs) {k i j : Nat} {e0 e : va_E} {H1 : Heap} (hG : G k i = some e0) (he : va_at D.1 vwCl (xa k i, e) H1) (z : H1.size = H.size) (oq : ∀ q : Nat, q ≠ xa k i → H1[q]? = H[q]?) : xW D sa A s xa (xup G k i e) H1 (locs ++ [⟨xa k i, j⟩]) := by
  have hne : G k i ≠ none := by rw [hG]; exact fun z => by cases z
  have dom : ∀ k' i' : Nat, xup G k i e k' i' ≠ none → G k' i' ≠ none := by
    intro k' i' hk
    by_cases hq : k' = k ∧ i' = i
    · obtain ⟨rfl, rfl⟩ := hq
      exact hne
    · rwa [xup_ne G e hq] at hk
  refine ⟨⟨fun k' i' e' hk => ?_, fun k1 i1 k2 i2 h1 h2 => h.1.2 k1 i1 k2 i2 (dom _ _ h1) (dom _ _ h2)⟩, fun k' i' hk => h.2.1 k' i' (dom _ _ hk), h.2.2.1, h.S.put z oq (h.2.1 k i hne), h.K, h.2.2.2.2.2⟩
  by_cases hq : k' = k ∧ i' = i
  · obtain ⟨rfl, rfl⟩ := hq
    rw [xup_self] at hk
    cases hk
    exact he
  · rw [xup_ne G e hq] at hk
    refine (h.1.1 k' i' e' hk).kept (oq _ fun hz => hq (h.1.2 k' i' k i (by rw [hk]; exact fun z => by cases z) hne hz))
/-- a cell comes -/
theorem xW.push (h : xW D sa A s xa G H locs) {k i : Nat} {e : va_E} {H1 : Heap} (hG : G k i = none) (he : va_at D.1 vwCl (H.size, e) H1) (z : H1.size = H.size + 1) (oq : ∀ q : Nat, q < H.size → H1[q]? = H[q]?) : xW D sa A s (xaup xa k i H.size) (xup G k i e) H1 locs := by
  have old : ∀ k' i' : Nat, G k' i' ≠ none → ¬ (k' = k ∧ i' = i) := fun k' i' hk hq => hk (by rw [hq.1, hq.2]; exact hG)
  have lt : ∀ k' i' : Nat, G k' i' ≠ none → xa k' i' < H.size := fun k' i' hk => by
    obtain ⟨e', he'⟩ := Option.ne_none_iff_exists'.mp hk
    exact h.lt he'
  have cse : ∀ k' i' : Nat, xup G k i e k' i' ≠ none → (k' = k ∧ i' = i ∧ xaup xa k i H.size k' i' = H.size) ∨ (G k' i' ≠ none ∧ xaup xa k i H.size k' i' = xa k' i') := by
    intro k' i' hk
    by_cases hq : k' = k ∧ i' = i
    · exact Or.inl ⟨hq.1, hq.2, by simp [xaup, hq]⟩
    · rw [xup_ne G e hq] at hk
      exact Or.inr ⟨hk, by simp [xaup, hq]⟩
  refine ⟨⟨fun k' i' e' hk => ?_, fun k1 i1 k2 i2 h1 h2 hx => ?_⟩, fun k' i' hk => ?_, h.2.2.1, ⟨Nat.le_trans h.S.1 (by omega), fun q h1 h2 => (oq q (Nat.lt_of_lt_of_le h1 h.S.1)).trans (h.S.2.1 q h1 h2), h.S.2.2⟩, h.K, h.2.2.2.2.2⟩
  · by_cases hq : k' = k ∧ i' = i
    · obtain ⟨rfl, rfl⟩ := hq
      rw [xup_self] at hk
      cases hk
      rw [xaup_self]
      exact he
    · rw [xup_ne G e hq] at hk
      rw [xaup_ne xa _ hq]
      exact (h.1.1 k' i' e' hk).kept (oq _ (h.lt hk))
  · rcases cse _ _ h1 with ⟨a1, a2, a3⟩ | ⟨a1, a2⟩ <;> rcases cse _ _ h2 with ⟨b1, b2, b3⟩ | ⟨b1, b2⟩
    · exact ⟨a1.trans b1.symm, a2.trans b2.symm⟩
    · rw [a3, b2] at hx
      exact absurd hx (Nat.ne_of_gt (lt _ _ b1))
    · rw [a2, b3] at hx
      exact absurd hx (Nat.ne_of_lt (lt _ _ a1))
    · rw [a2, b2] at hx
      exact h.1.2 _ _ _ _ a1 b1 hx
  · rcases cse _ _ hk with ⟨a1, a2, a3⟩ | ⟨a1, a2⟩
    · rw [a3]
      exact h.2.2.1 _ h.S.1
    · rw [a2]
      exact h.2.1 _ _ a1
/-- the same world by other words -/
theorem xW.to (h : xW D sa A s xa G H locs) {xa1 : xA} {G1 : xG} (h1 : ∀ (k i : Nat) (e : va_E), G1 k i = some e → G k i = some e ∧ xa1 k i = xa k i) : xW D sa A s xa1 G1 H locs := by
  have dom : ∀ k' i' : Nat, G1 k' i' ≠ none → G k' i' ≠ none ∧ xa1 k' i' = xa k' i' := fun k' i' hk => by
    obtain ⟨e', he'⟩ := Option.ne_none_iff_exists'.mp hk
    exact ⟨(by rw [(h1 _ _ _ he').1]; exact (fun z => nomatch z)), (h1 _ _ _ he').2⟩
  refine ⟨⟨fun k i e hk => by rw [(h1 k i e hk).2]; exact h.1.1 k i e (h1 k i e hk).1, fun k1 i1 k2 i2 ha hb hx => ?_⟩, fun k i hk => by rw [(dom k i hk).2]; exact h.2.1 k i (dom k i hk).1, h.2.2⟩
  rw [(dom _ _ ha).2, (dom _ _ hb).2] at hx
  exact h.1.2 _ _ _ _ (dom _ _ ha).1 (dom _ _ hb).1 hx
theorem xW.eqG (h : xW D sa A s xa G H locs) {G1 : xG} (h1 : G1 = G) : xW D sa A s xa G1 H locs := by rw [h1]; exact h
theorem xW.B (h : xW D sa A s xa G H locs) {t : State} (ht : t.heap = H) (hv : s.vm.Alike t.vm) : xB D A (xa, G) t := ⟨by rw [ht]; exact h.1, h.2.1, va_K.moved hv h.K⟩
theorem xW.start (h : xPs D sa xa G s.heap.size s) : xW D sa (xAw xa G s.heap.size) s xa G s.heap [] := ⟨h.2.1, fun k i hk => Or.inl ⟨k, i, hk, rfl⟩, fun q hq => Or.inr hq, va_S.rf, h.2.2.1, h.2.2.2⟩
theorem xW.sub (h : xW D sa A s xa G H locs) : ∀ q, xAw xa G H.size q → A q := by
  rintro q (⟨k, i, hk, rfl⟩ | hq)
  · exact h.2.1 k i hk
  · exact h.2.2.1 q (Nat.le_trans h.S.1 hq)
/-- what a callee finds -/
theorem xW.pre (h : xW D sa A s xa G H locs) {U : State} (hU : U.heap = H) (hW : s.WarmedH U.vm) : xPs D sa xa G H.size U := by
  refine ⟨by rw [hU], by rw [hU]; exact h.1, va_K.moved hW.alike h.K, ?_⟩
  rw [hU]
  exact xEv.moved hW ((h.2.2.2.2.2.kept h.S.2.1).narrow h.sub)
/-- .. and leaves -/
theorem xW.post (h : xW D sa A s xa G H locs) {u : xA × xG} {t : State} {H1 : Heap} {locs1 : List Loc} (ht : t.heap = H1) (hB : xB D (xAw xa G H.size) u t) (hS : va_S A s.heap H1 locs1) : xW D sa A s u.1 u.2 H1 locs1 := ⟨by rw [← ht]; exact hB.1, fun k i hk => h.sub _ (hB.2.1 k i hk), h.2.2.1, hS, h.K, h.2.2.2.2.2⟩
theorem xW.recv (h : xW D sa A s xa G H locs) {k i ci : Nat} {fs : List Value} {q : vw_C} (hG : G k i = some (.inr (ci, fs))) (hc : vwCl[ci]? = some q) : ∃ cell : Cell, H[xa k i]? = some cell ∧ cell.vm.isStatics = false ∧ s.vm.findClass q.1 = some cell.cls := va_recv h.K (h.sing hG) (q0 := 0) hc rfl
end XW
end
section
/-! THE INSTRUCTIONS OVER THE WORLD (they stand on the kit's rows; those that write follow the proofs of their sisters there) -/
section XR
variable {p : Program} {l : Launch} {e : Env} {R : Room} {s : State} {m : MethodId} {args : Array Value} {below : List Frame} {meth : Method} {c : Code} {H : Heap} {locs : List Loc} {cells slots : Nat} {Q : State → Prop}
variable {cc : ByteArray} {pc : Nat} {ls : Array Slot} {rest : List Value} {D : xD} {sa : Nat → Nat} {A : Nat → Prop} {xa : xA} {G : xG}
theorem x_get (hexec : p.tables.exec = Jvm.exec) (hb : c.code = cc) {own ref C : String} {T : u_T} {N ci index : Nat} {Ts : List Cond} (hts : ∀ w ∈ Ts, w.before args s = true) (hin : ∀ w ∈ u_ws C T N, w ∈ Ts) (hown : s.vm.findClass own = some m.cls) (hW : xW D sa A s xa G H locs) (k i : Nat) {fs : List Value} (hG : G k i = some (.inr (ci, fs))) (hc : vwCl[ci]? = some (C, T, N)) (j : Nat) (hj : j < N) (hlink : (Cond.fieldLink own index ref (T j).2.1 (T j).2.2.1).before args s = true) (hsame : (T j).1 = ref) {v : Value} (hv : fs[j]? = some v) (hdg : decode cc pc = .ok (.getfield index, 3))
    (kk : W p l e R s m args below meth c H locs cells slots Q (F0 m (pc + 3) ls (v :: rest))) : W p l e R s m args below meth c H locs cells slots Q (F0 m pc ls (.ref (xa k i) :: rest)) :=
  va_get hexec hb hts hin hown hW.K (hW.sing hG) 0 rfl hc j hj hlink (fun x h => by rw [← hsame]; exact h) hv hdg kk
theorem x_put (hexec : p.tables.exec = Jvm.exec) (hb : c.code = cc) {own ref C : String} {T : u_T} {N ci index : Nat} {Ts : List Cond} (hts : ∀ w ∈ Ts, w.before args s = true) (hin : ∀ w ∈ u_ws C T N, w ∈ Ts) (ty0 : Nat → FieldType) (hty : ∀ k, k < N → parseFieldDescriptor (T k).2.2.1 = some (ty0 k)) (hnm : ∀ a, a < N → ∀ b, b < N → a ≠ b → (T a).2.1 ≠ (T b).2.1) (hown : s.vm.findClass own = some m.cls) (hW : xW D sa A s xa G H locs) (k i : Nat) {fs : List Value} (hG : G k i = some (.inr (ci, fs))) (hc : vwCl[ci]? = some (C, T, N)) (j : Nat) (hj : j < N) (hlink : (Cond.fieldLink own index ref (T j).2.1 (T j).2.2.1).before args s = true) (hsame : (T j).1 = ref) (hfin : (T j).2.2.2 = false) {ty : FieldType} {v : Value} (hd : parseFieldDescriptor (T j).2.2.1 = some ty) (hn : narrow ty v = v) (hfit : fits ty v = true) (hl : j < fs.length)
    (hdg : decode cc pc = .ok (.putfield index, 3)) (kk : ∀ (H1 : Heap) (locs1 : List Loc), xW D sa A s xa (xup G k i (.inr (ci, fs.set j v))) H1 locs1 → W p l e R s m args below meth c H1 locs1 cells slots Q (F0 m (pc + 3) ls rest)) : W p l e R s m args below meth c H locs cells slots Q (F0 m pc ls (v :: .ref (xa k i) :: rest)) := by
  have hK := hW.K
  have hap := va_apart (own := own) hts hin ty0 hty hnm hK hc
  obtain ⟨r, h1, cell, q1, q2, q3, q4⟩ := hW.1.1 k i _ hG
  have hr : r = (C, T, N) := Option.some.inj (h1.symm.trans hc)
  subst hr
  obtain ⟨hS, hfc, kC, hkC, hkind⟩ := hK.1 ci _ hc
  obtain ⟨cf, kf, fi, f, hi, hsl⟩ := hS j hj
  have hlay := hts _ (hin _ (u_in_lay hj))
  unfold u_lay at hlay
  rw [if_neg (by rw [hfin]; decide)] at hlay
  have hst := (u_facts hfc hkC (u_lays hts hin hj) hi).1
  have h6 := u_store hfc hkC hkind hlay hi hd hn hfit
  refine W.putK hexec hb (f := f) ⟨hown, hlink, ⟨_, _, _, by rw [← hsame]; exact hi⟩, hst⟩ (by rw [q2]; exact h6) q1 q3 (by rw [hsl]; exact k2_hasslot (q4 j hj)) rfl rfl hdg fun H' e1 e2 e3 => ?_
  rw [hsl] at e1 ⊢
  exact kk H' _ (hW.set hG ⟨_, hc, t_OB.to (V := updV (vp_V fs) j v) ⟨_, e1, q2, q3, t_set q4 hap hj v⟩ (fun x _ => vp_updV_set hl v x)⟩ e2 e3)
theorem x_putF (hexec : p.tables.exec = Jvm.exec) (hb : c.code = cc) {own C : String} {T : u_T} {N ci index : Nat} {Ts : List Cond} (hts : ∀ w ∈ Ts, w.before args s = true) (hin : ∀ w ∈ u_ws C T N, w ∈ Ts) (ty0 : Nat → FieldType) (hty : ∀ k, k < N → parseFieldDescriptor (T k).2.2.1 = some (ty0 k)) (hnm : ∀ a, a < N → ∀ b, b < N → a ≠ b → (T a).2.1 ≠ (T b).2.1) (hown : s.vm.findClass own = some m.cls) (hW : xW D sa A s xa G H locs) (k i : Nat) {fs : List Value} (hG : G k i = some (.inr (ci, fs))) (hc : vwCl[ci]? = some (C, T, N)) (j : Nat) (hj : j < N) (hlink : (Cond.fieldLink own index own (T j).2.1 (T j).2.2.1).before args s = true) (hsame : (T j).1 = own) (hfin : (T j).2.2.2 = true) (hin2 : meth.name = "<init>") {ty : FieldType} {v : Value} (hd : parseFieldDescriptor (T j).2.2.1 = some ty) (hn : narrow ty v = v) (hfit : fits ty v = true) (hl : j < fs.length)
    (hdg : decode cc pc = .ok (.putfield index, 3)) (kk : ∀ (H1 : Heap) (locs1 : List Loc), xW D sa A s xa (xup G k i (.inr (ci, fs.set j v))) H1 locs1 → W p l e R s m args below meth c H1 locs1 cells slots Q (F0 m (pc + 3) ls rest)) : W p l e R s m args below meth c H locs cells slots Q (F0 m pc ls (v :: .ref (xa k i) :: rest)) := by
  have hK := hW.K
  have hap := va_apart (own := own) hts hin ty0 hty hnm hK hc
  obtain ⟨r, h1, cell, q1, q2, q3, q4⟩ := hW.1.1 k i _ hG
  have hr : r = (C, T, N) := Option.some.inj (h1.symm.trans hc)
  subst hr
  obtain ⟨hS, hfc, kC, hkC, hkind⟩ := hK.1 ci _ hc
  obtain ⟨cf, kf, fi, f, hi, hsl⟩ := hS j hj
  have hlay := hts _ (hin _ (u_in_lay hj))
  unfold u_lay at hlay
  rw [if_pos hfin] at hlay
  have hst := (u_facts hfc hkC (u_lays hts hin hj) hi).1
  have hcf : m.cls = cf := by
    obtain ⟨_, _, c', _, _, _, -, -, hf', -, -, -, hown2, -⟩ := Cond.laysFinal_spec hlay
    have e1 : c' = cf := by have := hi.symm.trans hf'; simp at this; exact this.1.symm
    rw [hsame] at hown2
    rw [← e1]; exact Option.some.inj (hown.symm.trans hown2)
  have h6 := u_fits hfc hkC hkind (Or.inr hlay) hi hd hn hfit
  refine W.putFinK hexec hb hown hlink (by rw [← hsame]; exact hi) hst hcf hin2 (by rw [q2]; exact h6) q1 q3 (by rw [hsl]; exact k2_hasslot (q4 j hj)) rfl rfl hdg fun H' e1 e2 e3 => ?_
  rw [hsl] at e1 ⊢
  exact kk H' _ (hW.set hG ⟨_, hc, t_OB.to (V := updV (vp_V fs) j v) ⟨_, e1, q2, q3, t_set q4 hap hj v⟩ (fun x _ => vp_updV_set hl v x)⟩ e2 e3)
theorem x_ild (hexec : p.tables.exec = Jvm.exec) (hb : c.code = cc) (hW : xW D sa A s xa G H locs) (k i : Nat) {n : Nat} {f : Nat → Int32} (hG : G k i = some (.inl (D.2 4, n, .inl f))) {ix : Int32} (j : Nat) (hj : ix = nI j) (hlt : j < n) (hn : n < 2 ^ 31) {v : Int32} (hv : f j = v) (hdg : decode cc pc = .ok (.iaload, 1))
    (kk : W p l e R s m args below meth c H locs cells slots Q (F0 m (pc + 1) ls (.int v :: rest))) : W p l e R s m args below meth c H locs cells slots Q (F0 m pc ls (.int ix :: .ref (xa k i) :: rest)) := by
  subst hj; subst hv
  refine va_iald hexec hb hW.K (hW.sing hG) 0 4 rfl rfl (vp_in_nI hlt hn) hdg ?_
  rw [nI_clamp (by omega)]
  exact kk
theorem x_zld (hexec : p.tables.exec = Jvm.exec) (hb : c.code = cc) (hW : xW D sa A s xa G H locs) (k i : Nat) {n : Nat} {f : Nat → Int32} (hG : G k i = some (.inl (D.2 5, n, .inl f))) {ix : Int32} (j : Nat) (hj : ix = nI j) (hlt : j < n) (hn : n < 2 ^ 31) {v : Int32} (hv : f j = v) (hdg : decode cc pc = .ok (.baload, 1))
    (kk : W p l e R s m args below meth c H locs cells slots Q (F0 m (pc + 1) ls (.int v :: rest))) : W p l e R s m args below meth c H locs cells slots Q (F0 m pc ls (.int ix :: .ref (xa k i) :: rest)) := by
  subst hj; subst hv
  refine va_zald hexec hb hW.K (hW.sing hG) 0 5 rfl rfl (vp_in_nI hlt hn) hdg ?_
  rw [nI_clamp (by omega)]
  exact kk
theorem x_ald (hexec : p.tables.exec = Jvm.exec) (hb : c.code = cc) (hW : xW D sa A s xa G H locs) (k i t : Nat) {C : String} (ht : (xtys D)[t]? = some (D.2 t, .object C)) {n : Nat} {f : Nat → Option Nat} (hG : G k i = some (.inl (D.2 t, n, .inr (.inr (.inr (.inr f)))))) {ix : Int32} (j : Nat) (hj : ix = nI j) (hlt : j < n) (hn : n < 2 ^ 31) {r : Option Nat} (hv : f j = r) (hdg : decode cc pc = .ok (.aaload, 1))
    (kk : W p l e R s m args below meth c H locs cells slots Q (F0 m (pc + 1) ls (va_rf r :: rest))) : W p l e R s m args below meth c H locs cells slots Q (F0 m pc ls (.int ix :: .ref (xa k i) :: rest)) := by
  subst hj; subst hv
  refine va_aldq hexec hb hW.K (hW.sing hG) 0 t rfl ht (vp_in_nI hlt hn) hdg ?_
  rw [nI_clamp (by omega)]
  exact kk
theorem x_len (hexec : p.tables.exec = Jvm.exec) (hb : c.code = cc) (hW : xW D sa A s xa G H locs) (k i t : Nat) {ty : FieldType} (ht : (xtys D)[t]? = some (D.2 t, ty)) {a : vp_A} (hG : G k i = some (.inl (D.2 t, a))) {v : Int32} (hv : nI a.1 = v) (hdg : decode cc pc = .ok (.arraylength, 1))
    (kk : W p l e R s m args below meth c H locs cells slots Q (F0 m (pc + 1) ls (.int v :: rest))) : W p l e R s m args below meth c H locs cells slots Q (F0 m pc ls (.ref (xa k i) :: rest)) :=
  va_alen hexec hb hW.K (hW.sing hG) 0 t rfl ht hv hdg kk
theorem x_ist (hexec : p.tables.exec = Jvm.exec) (hb : c.code = cc) (hW : xW D sa A s xa G H locs) (k i : Nat) {n : Nat} {f : Nat → Int32} (hG : G k i = some (.inl (D.2 4, n, .inl f))) {ix x : Int32} (j : Nat) (hj : ix = nI j) (hlt : j < n) (hn : n < 2 ^ 31) (hdg : decode cc pc = .ok (.iastore, 1))
    (kk : ∀ (H1 : Heap) (locs1 : List Loc), xW D sa A s xa (xup G k i (.inl (D.2 4, n, .inl (upd f j x)))) H1 locs1 → W p l e R s m args below meth c H1 locs1 cells slots Q (F0 m (pc + 1) ls rest)) : W p l e R s m args below meth c H locs cells slots Q (F0 m pc ls (.int x :: .int ix :: .ref (xa k i) :: rest)) := by
  subst hj
  have hcl : (nI j).toNatClampNeg = j := nI_clamp (by omega)
  refine W.iast hexec hb (hW.1.1 k i _ hG) ((hW.K.2 4 _ rfl).1 n (fun j => .int (f j))) (fun q => by cases q) (by show ¬ (nI j < 0 ∨ (arrV _ _ _).slots.size ≤ _); rw [arrV_size]; exact vp_in_nI hlt hn) rfl rfl hdg fun H1 e z oq => ?_
  refine kk H1 _ (hW.set hG ?_ z oq)
  show H1[xa k i]? = some (vp_cell _ _)
  rw [e]
  rw [vp_cell_i, vp_cell_i, arrV_store]
  congr 2
  funext q
  rw [hcl]
  by_cases hq : q = j
  · subst hq
    simp [updV, upd]
  · simp [updV, upd, hq]
theorem x_zst (hexec : p.tables.exec = Jvm.exec) (hb : c.code = cc) (hW : xW D sa A s xa G H locs) (k i : Nat) {n : Nat} {f : Nat → Int32} (hG : G k i = some (.inl (D.2 5, n, .inl f))) {ix x : Int32} (j : Nat) (hj : ix = nI j) (hlt : j < n) (hn : n < 2 ^ 31) (hx : narrow .boolean (.int x) = .int x) (hdg : decode cc pc = .ok (.bastore, 1))
    (kk : ∀ (H1 : Heap) (locs1 : List Loc), xW D sa A s xa (xup G k i (.inl (D.2 5, n, .inl (upd f j x)))) H1 locs1 → W p l e R s m args below meth c H1 locs1 cells slots Q (F0 m (pc + 1) ls rest)) : W p l e R s m args below meth c H locs cells slots Q (F0 m pc ls (.int x :: .int ix :: .ref (xa k i) :: rest)) := by
  subst hj
  have hcl : (nI j).toNatClampNeg = j := nI_clamp (by omega)
  refine W.zast hexec hb (hW.1.1 k i _ hG) ((hW.K.2 5 _ rfl).1 n (fun j => .int (f j))) (fun q => by cases q) (by show ¬ (nI j < 0 ∨ (arrV _ _ _).slots.size ≤ _); rw [arrV_size]; exact vp_in_nI hlt hn) rfl rfl hdg fun H1 e z oq => ?_
  refine kk H1 _ (hW.set hG ?_ z oq)
  show H1[xa k i]? = some (vp_cell _ _)
  rw [e]
  rw [vp_cell_i, vp_cell_i, arrV_store]
  congr 2
  funext q
  rw [hcl, hx]
  by_cases hq : q = j
  · subst hq
    simp [updV, upd]
  · simp [updV, upd, hq]
theorem x_lst (hexec : p.tables.exec = Jvm.exec) (hb : c.code = cc) (hW : xW D sa A s xa G H locs) (k i : Nat) {n : Nat} {f : Nat → Int64} (hG : G k i = some (.inl (D.2 6, n, .inr (.inl f)))) {ix : Int32} {x : Int64} (j : Nat) (hj : ix = nI j) (hlt : j < n) (hn : n < 2 ^ 31) (hdg : decode cc pc = .ok (.lastore, 1))
    (kk : ∀ (H1 : Heap) (locs1 : List Loc), xW D sa A s xa (xup G k i (.inl (D.2 6, n, .inr (.inl (vp_updL f j x))))) H1 locs1 → W p l e R s m args below meth c H1 locs1 cells slots Q (F0 m (pc + 1) ls rest)) : W p l e R s m args below meth c H locs cells slots Q (F0 m pc ls (.long x :: .int ix :: .ref (xa k i) :: rest)) := by
  subst hj
  have hcl : (nI j).toNatClampNeg = j := nI_clamp (by omega)
  refine W.last hexec hb (hW.1.1 k i _ hG) ((hW.K.2 6 _ rfl).1 n (fun j => .long (f j))) (fun q => by cases q) (by show ¬ (nI j < 0 ∨ (arrV _ _ _).slots.size ≤ _); rw [arrV_size]; exact vp_in_nI hlt hn) rfl rfl hdg fun H1 e z oq => ?_
  refine kk H1 _ (hW.set hG ?_ z oq)
  show H1[xa k i]? = some (vp_cell _ _)
  rw [e]
  rw [vp_cell_l, vp_cell_l, arrV_store]
  congr 2
  funext q
  rw [hcl]
  by_cases hq : q = j
  · subst hq
    simp [updV, vp_updL]
  · simp [updV, vp_updL, hq]
theorem x_lld (hexec : p.tables.exec = Jvm.exec) (hb : c.code = cc) (hW : xW D sa A s xa G H locs) (k i : Nat) {n : Nat} {f : Nat → Int64} (hG : G k i = some (.inl (D.2 6, n, .inr (.inl f)))) {ix : Int32} (j : Nat) (hj : ix = nI j) (hlt : j < n) (hn : n < 2 ^ 31) {v : Int64} (hv : f j = v) (hdg : decode cc pc = .ok (.laload, 1))
    (kk : W p l e R s m args below meth c H locs cells slots Q (F0 m (pc + 1) ls (.long v :: rest))) : W p l e R s m args below meth c H locs cells slots Q (F0 m pc ls (.int ix :: .ref (xa k i) :: rest)) := by
  subst hj; subst hv
  refine va_lald hexec hb hW.K (hW.sing hG) 0 6 rfl rfl (vp_in_nI hlt hn) hdg ?_
  rw [nI_clamp (by omega)]
  exact kk
/-- a reference to an object of the world is put into an array -/
theorem x_ast (hexec : p.tables.exec = Jvm.exec) (hb : c.code = cc) (hW : xW D sa A s xa G H locs) (k i t : Nat) {r : vw_C} (ht : (xtys D)[t]? = some (D.2 t, .object r.1)) {n : Nat} {f : Nat → Option Nat} (hG : G k i = some (.inl (D.2 t, n, .inr (.inr (.inr (.inr f)))))) (k2 i2 : Nat) {ci : Nat} {vs : List Value} (hG2 : G k2 i2 = some (.inr (ci, vs))) (hc : vwCl[ci]? = some r) {ix : Int32} (j : Nat) (hj : ix = nI j) (hlt : j < n) (hn : n < 2 ^ 31) (hdg : decode cc pc = .ok (.aastore, 1))
    (kk : ∀ (H1 : Heap) (locs1 : List Loc), xW D sa A s xa (xup G k i (.inl (D.2 t, n, .inr (.inr (.inr (.inr (va_up f j (some (xa k2 i2)))))))) ) H1 locs1 → W p l e R s m args below meth c H1 locs1 cells slots Q (F0 m (pc + 1) ls rest)) : W p l e R s m args below meth c H locs cells slots Q (F0 m pc ls (.ref (xa k2 i2) :: .int ix :: .ref (xa k i) :: rest)) := by
  subst hj
  have hcl : (nI j).toNatClampNeg = j := nI_clamp (by omega)
  have hK := hW.K
  obtain ⟨r', hr', cellV, g1, g2, g3, -⟩ := hW.1.1 k2 i2 _ hG2
  have hcls := (hK.1 ci r hc).2
  obtain ⟨kA, comp, k1, k2', k3, -⟩ := (hK.2 t _ ht).2
  have hcomp : comp = D.1.1 ci := Option.some.inj (k3.symm.trans hcls.1)
  subst hcomp
  obtain ⟨kC, hkC, -⟩ := hcls.2
  refine W.aast hexec hb (hW.1.1 k i _ hG) (fun q h => by cases h) (fun h => by cases h) k1 k2' rfl hkC ⟨nI_pos (by omega), by show _ < (arrV _ _ _).slots.size; rw [arrV_size, hcl]; exact hlt⟩ g1 (fun q h => by rw [g3] at h; cases h) (by rw [g2]; exact hkC) (by rw [g2]; exact va_assign hcls) rfl rfl hdg fun H1 e z oq => ?_
  refine kk H1 _ (hW.set hG ?_ z oq)
  show H1[xa k i]? = some (vp_cell _ _)
  rw [e]
  rw [vp_cell_q, vp_cell_q, arrV_store]
  congr 2
  funext q
  rw [hcl]
  by_cases hq : q = j
  · subst hq
    simp [updV, va_up, va_rf]
  · simp [updV, va_up, hq]
/-- a new object -/
theorem x_new {c0 : Code} (hexec : p.tables.exec = Jvm.exec) (hb : c0.code = cc) {own C : String} {T : u_T} {N ci index : Nat} {Ts : List Cond} (hts : ∀ w ∈ Ts, w.before args s = true) (hin : ∀ w ∈ u_ws C T N, w ∈ Ts) (ty : Nat → FieldType) (hty : ∀ k, k < N → parseFieldDescriptor (T k).2.2.1 = some (ty k)) (hown : s.vm.findClass own = some m.cls) (hcl : (Cond.classLink own index C).before args s = true) (hinst : (Cond.instantiable C N).before args s = true) (hini : (Cond.initialized C).before args s = true)
    (hW : xW D sa A s xa G H locs) (k i : Nat) (hG : G k i = none) (hc : vwCl[ci]? = some (C, T, N)) {fs : List Value} (hfs : ∀ j, j < N → defaultValue (ty j) = vp_V fs j) (hcells : cells + 1 ≤ R.cells) (hslots : slots + N ≤ R.slots) (hdg : decode cc pc = .ok (.new index, 3))
    (kk : ∀ (xa1 : xA) (H1 : Heap), (∀ k' i' : Nat, ¬ (k' = k ∧ i' = i) → xa1 k' i' = xa k' i') → xW D sa A s xa1 (xup G k i (.inr (ci, fs))) H1 locs → W p l e R s m args below meth c0 H1 locs (cells + 1) (slots + N) Q (F0 m (pc + 3) ls (.ref (xa1 k i) :: rest))) : W p l e R s m args below meth c0 H locs cells slots Q (F0 m pc ls rest) := by
  have hKn := hW.K.1 ci _ hc
  refine W.newcK hexec hb hown hcl hinst hini rfl hdg hcells hslots hKn.2.1 rfl fun H1 kC hkC e1 z1 o1 => ?_
  have h9 := kk (xaup xa k i H.size) H1 (fun k' i' h => xaup_ne xa _ h) (hW.push hG ⟨_, hc, (u_born ty hts hin hKn hkC e1 hty).to hfs⟩ z1 o1)
  rw [xaup_self] at h9
  exact h9
/-- a new array of numbers -/
theorem x_newa (hexec : p.tables.exec = Jvm.exec) (hb : c.code = cc) {atype : ArrayType} (harr : (Cond.arrayClass (newarray.typeOf atype)).before args s = true) (t : Nat) {ty : FieldType} (hty : newarray.typeOf atype = ty) (ht : (xtys D)[t]? = some (D.2 t, ty)) (hra : va_RA s (D.2 t) ty → s.vm.findClass ("[" ++ ty.toString) = some (D.2 t)) (hW : xW D sa A s xa G H locs) (k i : Nat) (hG : G k i = none)
    {n : Int32} {N' : Nat} {a0 : vp_A} (ha : ∀ cA : ClassId, vp_cell cA a0 = arrV cA N' (fun _ => defaultValue ty)) (hn : ¬ n < 0) (hN : n.toNatClampNeg = N') (hbytes : N' * componentBytes ty ≤ 536870912) (hcells : cells + 1 ≤ R.cells) (hslots : slots + N' ≤ R.slots) (hdg : decode cc pc = .ok (.newarray atype, 2))
    (kk : ∀ (xa1 : xA) (H1 : Heap), (∀ k' i' : Nat, ¬ (k' = k ∧ i' = i) → xa1 k' i' = xa k' i') → xW D sa A s xa1 (xup G k i (.inl (D.2 t, a0))) H1 locs → W p l e R s m args below meth c H1 locs (cells + 1) (slots + N') Q (F0 m (pc + 2) ls (.ref (xa1 k i) :: rest))) : W p l e R s m args below meth c H locs cells slots Q (F0 m pc ls (.int n :: rest)) := by
  subst hty
  refine va_newaK hexec hb harr rfl hdg rfl hn hN hbytes hcells hslots rfl fun H1 cA e1 z1 o1 hAr hNm => ?_
  have hcA : cA = D.2 t := Option.some.inj (hNm.symm.trans (hra (hW.K.2 t _ ht).2))
  subst hcA
  have h9 := kk (xaup xa k i H.size) H1 (fun k' i' h => xaup_ne xa _ h) (hW.push hG (by show H1[H.size]? = some (vp_cell _ _); rw [ha]; exact e1) z1 o1)
  rw [xaup_self] at h9
  exact h9
/-- a new array of references -/
theorem x_newq (hexec : p.tables.exec = Jvm.exec) (hb : c.code = cc) {own C : String} {index : Nat} (hown : s.vm.findClass own = some m.cls) (hclink : (Cond.classLink own index C).before args s = true) (hover : (Cond.arrayOver (.object C)).before args s = true) (hW : xW D sa A s xa G H locs) (k i t : Nat) (ht : (xtys D)[t]? = some (D.2 t, .object C)) (hG : G k i = none)
    {n : Int32} {N' : Nat} (hn : ¬ n < 0) (hN : n.toNatClampNeg = N') (hbytes : N' * 4 ≤ 536870912) (hcells : cells + 1 ≤ R.cells) (hslots : slots + N' ≤ R.slots) (hdg : decode cc pc = .ok (.anewarray index, 3))
    (kk : ∀ (xa1 : xA) (H1 : Heap), (∀ k' i' : Nat, ¬ (k' = k ∧ i' = i) → xa1 k' i' = xa k' i') → xW D sa A s xa1 (xup G k i (.inl (D.2 t, N', .inr (.inr (.inr (.inr (fun _ => none))))))) H1 locs → W p l e R s m args below meth c H1 locs (cells + 1) (slots + N') Q (F0 m (pc + 3) ls (.ref (xa1 k i) :: rest))) : W p l e R s m args below meth c H locs cells slots Q (F0 m pc ls (.int n :: rest)) := by
  subst hN
  refine W.anew hexec hb hown hclink hover rfl hdg rfl hn hbytes hcells hslots fun cA kA comp f1 f2 f3 f4 => ?_
  obtain ⟨kA', comp', g1, g2, g3, g4⟩ := (hW.K.2 t _ ht).2
  have hcA : cA = D.2 t := Option.some.inj (f1.symm.trans g4)
  subst hcA
  generalize hH1 : H.push ({ cls := D.2 t, slots := Array.replicate n.toNatClampNeg .null, vm := .none } : Cell) = H1
  have z1 : H1.size = H.size + 1 := by rw [← hH1, Array.size_push]
  have e1 : H1[H.size]? = some (arrV (D.2 t) n.toNatClampNeg (fun _ => .null)) := by rw [← hH1, Array.getElem?_push_size, ← arrV_new]
  have o1 : ∀ q : Nat, q < H.size → H1[q]? = H[q]? := fun q hq => by rw [← hH1, Array.getElem?_push, if_neg (Nat.ne_of_lt hq)]
  have h9 := kk (xaup xa k i H.size) H1 (fun k' i' h => xaup_ne xa _ h) (hW.push hG (by show H1[H.size]? = some (vp_cell _ _); rw [vp_cell_q]; exact e1) z1 o1)
  rw [xaup_self] at h9
  exact h9
/-- the null tests and the compares of references, by options -/
theorem x_ifnull (hexec : p.tables.exec = Jvm.exec) (hb : c.code = cc) {r : Option Nat} {off : Int} {tgt : Nat} (hdg : decode cc pc = .ok (.ifnull off, 3)) (ht : (pc : Int) + off = (tgt : Int))
    (kt : r = none → W p l e R s m args below meth c H locs cells slots Q (F0 m tgt ls rest)) (kf : ∀ a, r = some a → W p l e R s m args below meth c H locs cells slots Q (F0 m (pc + 3) ls rest)) : W p l e R s m args below meth c H locs cells slots Q (F0 m pc ls (va_rf r :: rest)) := by
  cases r with
  | none => exact lv_ifnullN hexec hb hdg ht (kt rfl)
  | some a => exact lv_ifnull hexec hb hdg (kf a rfl)
theorem x_ifnonnull (hexec : p.tables.exec = Jvm.exec) (hb : c.code = cc) {r : Option Nat} {off : Int} {tgt : Nat} (hdg : decode cc pc = .ok (.ifnonnull off, 3)) (ht : (pc : Int) + off = (tgt : Int))
    (kt : ∀ a, r = some a → W p l e R s m args below meth c H locs cells slots Q (F0 m tgt ls rest)) (kf : r = none → W p l e R s m args below meth c H locs cells slots Q (F0 m (pc + 3) ls rest)) : W p l e R s m args below meth c H locs cells slots Q (F0 m pc ls (va_rf r :: rest)) := by
  cases r with
  | none => exact lv_ifnonnullN hexec hb hdg (kf rfl)
  | some a => exact lv_ifnonnull hexec hb hdg ht (kt a rfl)
theorem va_rf_cat (r : Option Nat) : (va_rf r).category = 1 := by cases r <;> rfl
/-- loads and stores of a reference that may be null -/
theorem x_aload (hexec : p.tables.exec = Jvm.exec) (hb : c.code = cc) {i : Nat} {r : Option Nat} (hdg : decode cc pc = .ok (.aload i, 2)) (hl : ls[i]? = some (.val (va_rf r)))
    (k : W p l e R s m args below meth c H locs cells slots Q (F0 m (pc + 2) ls (va_rf r :: rest))) : W p l e R s m args below meth c H locs cells slots Q (F0 m pc ls rest) := by
  cases r with
  | none => exact lv_aloadN hexec hb hdg hl k
  | some a => exact lv_aload hexec hb hdg hl k
theorem x_aload_n (hexec : p.tables.exec = Jvm.exec) (hb : c.code = cc) {j : Fin 4} {i : Nat} {r : Option Nat} (hdg : decode cc pc = .ok (.aload_n j, 1)) (hi : (j : Nat) = i) (hl : ls[i]? = some (.val (va_rf r)))
    (k : W p l e R s m args below meth c H locs cells slots Q (F0 m (pc + 1) ls (va_rf r :: rest))) : W p l e R s m args below meth c H locs cells slots Q (F0 m pc ls rest) := by
  cases r with
  | none => exact lv_aload_nN hexec hb hdg hi hl k
  | some a => exact lv_aload_n hexec hb hdg hi hl k
theorem x_astore (hexec : p.tables.exec = Jvm.exec) (hb : c.code = cc) {i nL : Nat} {r : Option Nat} {lv lv' : List (Nat × Value)} (hdg : decode cc pc = .ok (.astore i, 2)) (h : lv_has ls nL lv) (hn : i < nL) (hl : (i, va_rf r) :: lv.filter (fun q => !(q.1 == i) && !(q.1 + 1 == i && q.2.category == 2)) = lv')
    (kk : ∀ ls' : Array Slot, lv_has ls' nL lv' → W p l e R s m args below meth c H locs cells slots Q (F0 m (pc + 2) ls' rest)) : W p l e R s m args below meth c H locs cells slots Q (F0 m pc ls (va_rf r :: rest)) := by
  cases r with
  | none => exact lv_astoreN hexec hb hdg h hn hl kk
  | some a => exact lv_astore hexec hb hdg h hn hl kk
theorem x_astore_n (hexec : p.tables.exec = Jvm.exec) (hb : c.code = cc) {j : Fin 4} {i nL : Nat} {r : Option Nat} {lv lv' : List (Nat × Value)} (hdg : decode cc pc = .ok (.astore_n j, 1)) (hi : (j : Nat) = i) (h : lv_has ls nL lv) (hn : i < nL) (hl : (i, va_rf r) :: lv.filter (fun q => !(q.1 == i) && !(q.1 + 1 == i && q.2.category == 2)) = lv')
    (kk : ∀ ls' : Array Slot, lv_has ls' nL lv' → W p l e R s m args below meth c H locs cells slots Q (F0 m (pc + 1) ls' rest)) : W p l e R s m args below meth c H locs cells slots Q (F0 m pc ls (va_rf r :: rest)) := by
  cases r with
  | none => exact lv_astore_nN hexec hb hdg hi h hn hl kk
  | some a => exact lv_astore_n hexec hb hdg hi h hn hl kk
end XR
end
section
/-! CALLS AND RETURNS OVER THE WORLD -/
section XC
variable {p : Program} {l : Launch} {e : Env} {R : Room} {s : State} {m : MethodId} {args : Array Value} {below : List Frame} {meth : Method} {c : Code} {H : Heap} {locs : List Loc} {cells slots : Nat} {Q : State → Prop}
variable {cc : ByteArray} {pc : Nat} {ls : Array Slot} {rest st0 : List Value} {D : xD} {sa : Nat → Nat} {A : Nat → Prop} {xa : xA} {G : xG}
variable {y : MethodName} {bytes : ByteArray} {maxL nL mc ms n index : Nat} {ret : Option FieldType} {ws Ts : List Cond} {rm : Room} {own C : String} {As : List Value}
theorem xW.preS (hW : xW D sa A s xa G H locs) {av : List Value} : PreS s H (va_Pc av (xPs D sa xa G H.size)) av := ⟨xPs_blind, fun U hU hv => ⟨rfl, hW.pre hU hv⟩⟩
theorem xW.preV (hW : xW D sa A s xa G H locs) {k i ci : Nat} {fs : List Value} {q : vw_C} (hG : G k i = some (.inr (ci, fs))) (hc : vwCl[ci]? = some q) (hC : q.1 = C) : PreV s H C (xa k i) (va_Pc (.ref (xa k i) :: As) (xPs D sa xa G H.size)) As := ⟨xPs_blind, by rw [← hC]; exact hW.recv hG hc, fun U hU hv => ⟨rfl, hW.pre hU hv⟩⟩
/-- runs of the four kinds, behind them one continuation -/
theorem xr_i {a : Array Value} {post : Int32 → xA × xG → Prop} (hW : xW D sa A s xa G H locs) (hr : va_Run p l e R s m args below meth c H locs cells slots mc ms (F0 m pc ls st0) rest (va_Qi post (xB D (xAw xa G H.size)) (xAw xa G H.size) a) (xAw xa G H.size))
    (kk : ∀ (r : Int32) (xa1 : xA) (G1 : xG) (H1 : Heap) (locs1 : List Loc), post r (xa1, G1) → xW D sa A s xa1 G1 H1 locs1 → W p l e R s m args below meth c H1 locs1 (cells + mc) (slots + ms) Q (F0 m (pc + 3) ls (.int r :: rest))) : W p l e R s m args below meth c H locs cells slots Q (F0 m pc ls st0) :=
  va_calli hr hW.S (fun q _ h => hW.sub q h) hW.sub (fun r u t H1 locs1 ht hvm hp hB hz hk hS => kk r u.1 u.2 H1 locs1 hp (hW.post ht hB hS))
theorem xr_v {a : Array Value} {post : xA × xG → Prop} (hW : xW D sa A s xa G H locs) (hr : va_Run p l e R s m args below meth c H locs cells slots mc ms (F0 m pc ls st0) rest (va_Qv post (xB D (xAw xa G H.size)) (xAw xa G H.size) a) (xAw xa G H.size))
    (kk : ∀ (xa1 : xA) (G1 : xG) (H1 : Heap) (locs1 : List Loc), post (xa1, G1) → xW D sa A s xa1 G1 H1 locs1 → W p l e R s m args below meth c H1 locs1 (cells + mc) (slots + ms) Q (F0 m (pc + 3) ls rest)) : W p l e R s m args below meth c H locs cells slots Q (F0 m pc ls st0) :=
  va_callv hr hW.S (fun q _ h => hW.sub q h) hW.sub (fun u t H1 locs1 ht hvm hp hB hz hk hS => kk u.1 u.2 H1 locs1 hp (hW.post ht hB hS))
theorem xr_q {a : Array Value} {post : Option Nat → xA × xG → Prop} (hW : xW D sa A s xa G H locs) (hr : va_Run p l e R s m args below meth c H locs cells slots mc ms (F0 m pc ls st0) rest (va_Qq post (xB D (xAw xa G H.size)) (xAw xa G H.size) a) (xAw xa G H.size))
    (kk : ∀ (r : Option Nat) (xa1 : xA) (G1 : xG) (H1 : Heap) (locs1 : List Loc), post r (xa1, G1) → xW D sa A s xa1 G1 H1 locs1 → W p l e R s m args below meth c H1 locs1 (cells + mc) (slots + ms) Q (F0 m (pc + 3) ls (va_rf r :: rest))) : W p l e R s m args below meth c H locs cells slots Q (F0 m pc ls st0) :=
  va_callq hr hW.S (fun q _ h => hW.sub q h) hW.sub (fun r u t H1 locs1 ht hvm hp hB hz hk hS => kk r u.1 u.2 H1 locs1 hp (hW.post ht hB hS))
theorem xv_i {post : Int32 → xA × xG → Prop} {k i ci : Nat} {fs : List Value} {q : vw_C} (S : CallFix p m c cc nL s args Ts own) (hM : xCi l y ws rm D sa xa G (.ref (xa k i) :: As) post mc ms) (cw : CallW R s args own C index y bytes maxL ret ws rm mc ms n) (hW : xW D sa A s xa G H locs) (hG : G k i = some (.inr (ci, fs))) (hc : vwCl[ci]? = some q) (hC : q.1 = C) (hst : st0 = As.reverse ++ .ref (xa k i) :: rest) (hn : As.length = n) (hls : ls.size = nL) (hroom : (rest.map fun v => v.category).sum ≤ 8) (hdg : decode cc pc = .ok (.invokevirtual index, 3)) (hf : cells + mc ≤ R.cells ∧ slots + ms ≤ R.slots)
    (kk : ∀ (r : Int32) (xa1 : xA) (G1 : xG) (H1 : Heap) (locs1 : List Loc), post r (xa1, G1) → xW D sa A s xa1 G1 H1 locs1 → W p l e R s m args below meth c H1 locs1 (cells + mc) (slots + ms) Q (F0 m (pc + 3) ls (.int r :: rest))) : W p l e R s m args below meth c H locs cells slots Q (F0 m pc ls st0) := by
  subst hst
  exact xr_i hW (va_runV S (hM H.size) cw (hW.preV hG hc hC) rfl hn hls rfl (lv_room hroom) hdg hf) kk
theorem xv_v {post : xA × xG → Prop} {k i ci : Nat} {fs : List Value} {q : vw_C} (S : CallFix p m c cc nL s args Ts own) (hM : xCv l y ws rm D sa xa G (.ref (xa k i) :: As) post mc ms) (cw : CallW R s args own C index y bytes maxL ret ws rm mc ms n) (hW : xW D sa A s xa G H locs) (hG : G k i = some (.inr (ci, fs))) (hc : vwCl[ci]? = some q) (hC : q.1 = C) (hst : st0 = As.reverse ++ .ref (xa k i) :: rest) (hn : As.length = n) (hls : ls.size = nL) (hroom : (rest.map fun v => v.category).sum ≤ 8) (hdg : decode cc pc = .ok (.invokevirtual index, 3)) (hf : cells + mc ≤ R.cells ∧ slots + ms ≤ R.slots)
    (kk : ∀ (xa1 : xA) (G1 : xG) (H1 : Heap) (locs1 : List Loc), post (xa1, G1) → xW D sa A s xa1 G1 H1 locs1 → W p l e R s m args below meth c H1 locs1 (cells + mc) (slots + ms) Q (F0 m (pc + 3) ls rest)) : W p l e R s m args below meth c H locs cells slots Q (F0 m pc ls st0) := by
  subst hst
  exact xr_v hW (va_runV S (hM H.size) cw (hW.preV hG hc hC) rfl hn hls rfl (lv_room hroom) hdg hf) kk
theorem xv_q {post : Option Nat → xA × xG → Prop} {k i ci : Nat} {fs : List Value} {q : vw_C} (S : CallFix p m c cc nL s args Ts own) (hM : xCq l y ws rm D sa xa G (.ref (xa k i) :: As) post mc ms) (cw : CallW R s args own C index y bytes maxL ret ws rm mc ms n) (hW : xW D sa A s xa G H locs) (hG : G k i = some (.inr (ci, fs))) (hc : vwCl[ci]? = some q) (hC : q.1 = C) (hst : st0 = As.reverse ++ .ref (xa k i) :: rest) (hn : As.length = n) (hls : ls.size = nL) (hroom : (rest.map fun v => v.category).sum ≤ 8) (hdg : decode cc pc = .ok (.invokevirtual index, 3)) (hf : cells + mc ≤ R.cells ∧ slots + ms ≤ R.slots)
    (kk : ∀ (r : Option Nat) (xa1 : xA) (G1 : xG) (H1 : Heap) (locs1 : List Loc), post r (xa1, G1) → xW D sa A s xa1 G1 H1 locs1 → W p l e R s m args below meth c H1 locs1 (cells + mc) (slots + ms) Q (F0 m (pc + 3) ls (va_rf r :: rest))) : W p l e R s m args below meth c H locs cells slots Q (F0 m pc ls st0) := by
  subst hst
  exact xr_q hW (va_runV S (hM H.size) cw (hW.preV hG hc hC) rfl hn hls rfl (lv_room hroom) hdg hf) kk
theorem xs_i {post : Int32 → xA × xG → Prop} (S : CallFix p m c cc nL s args Ts own) (hM : xCi l y ws rm D sa xa G As post mc ms) (cw : CallB R s args own index y bytes maxL ret ws rm mc ms n ∧ (Cond.static y).before args s = true) (hW : xW D sa A s xa G H locs) (hst : st0 = As.reverse ++ rest) (hn : As.length = n) (hls : ls.size = nL) (hroom : (rest.map fun v => v.category).sum ≤ 8) (hdg : decode cc pc = .ok (.invokestatic index, 3)) (hf : cells + mc ≤ R.cells ∧ slots + ms ≤ R.slots)
    (kk : ∀ (r : Int32) (xa1 : xA) (G1 : xG) (H1 : Heap) (locs1 : List Loc), post r (xa1, G1) → xW D sa A s xa1 G1 H1 locs1 → W p l e R s m args below meth c H1 locs1 (cells + mc) (slots + ms) Q (F0 m (pc + 3) ls (.int r :: rest))) : W p l e R s m args below meth c H locs cells slots Q (F0 m pc ls st0) := by
  subst hst
  exact xr_i hW (va_runS S (hM H.size) cw hW.preS rfl hn hls rfl (lv_room hroom) hdg hf) kk
theorem xs_q {post : Option Nat → xA × xG → Prop} (S : CallFix p m c cc nL s args Ts own) (hM : xCq l y ws rm D sa xa G As post mc ms) (cw : CallB R s args own index y bytes maxL ret ws rm mc ms n ∧ (Cond.static y).before args s = true) (hW : xW D sa A s xa G H locs) (hst : st0 = As.reverse ++ rest) (hn : As.length = n) (hls : ls.size = nL) (hroom : (rest.map fun v => v.category).sum ≤ 8) (hdg : decode cc pc = .ok (.invokestatic index, 3)) (hf : cells + mc ≤ R.cells ∧ slots + ms ≤ R.slots)
    (kk : ∀ (r : Option Nat) (xa1 : xA) (G1 : xG) (H1 : Heap) (locs1 : List Loc), post r (xa1, G1) → xW D sa A s xa1 G1 H1 locs1 → W p l e R s m args below meth c H1 locs1 (cells + mc) (slots + ms) Q (F0 m (pc + 3) ls (va_rf r :: rest))) : W p l e R s m args below meth c H locs cells slots Q (F0 m pc ls st0) := by
  subst hst
  exact xr_q hW (va_runS S (hM H.size) cw hW.preS rfl hn hls rfl (lv_room hroom) hdg hf) kk
/-- a constructor -/
theorem xi_v {post : xA × xG → Prop} {k i : Nat} (S : CallFix p m c cc nL s args Ts own) (hM : xCv l y ws rm D sa xa G (.ref (xa k i) :: As) post mc ms) (cw : CallB R s args own index y bytes maxL none ws rm mc ms n ∧ y.name = "<init>" ∧ (Cond.instanceMethod y).before args s = true) (hW : xW D sa A s xa G H locs) (hst : st0 = As.reverse ++ .ref (xa k i) :: rest) (hn : As.length = n) (hls : ls.size = nL) (hroom : (rest.map fun v => v.category).sum ≤ 8) (hdg : decode cc pc = .ok (.invokespecial index, 3)) (hf : cells + mc ≤ R.cells ∧ slots + ms ≤ R.slots)
    (kk : ∀ (xa1 : xA) (G1 : xG) (H1 : Heap) (locs1 : List Loc), post (xa1, G1) → xW D sa A s xa1 G1 H1 locs1 → W p l e R s m args below meth c H1 locs1 (cells + mc) (slots + ms) Q (F0 m (pc + 3) ls rest)) : W p l e R s m args below meth c H locs cells slots Q (F0 m pc ls st0) := by
  subst hst
  exact xr_v hW (va_runI S (hM H.size) cw hW.preS rfl hn hls rfl (lv_room hroom) hdg hf) kk
/-! callees that may throw, in a method that catches nothing: it goes on to the caller -/
theorem xo_out {Qc : Array Value → State → Outcome → State → Prop} {A0 : Nat → Prop} {pex pexO : String → Prop} {mcO msO : Nat} (hout : ∀ x ∈ c.exceptionTable.toList, False) (hlocks : meth.locks = false) (hpe : ∀ E, pex E → pexO E) (hc : cells + mc ≤ mcO) (hs : slots + ms ≤ msO) (hW : xW D sa A s xa G H locs)
    {E : String} {ce : Cell} {q9 : Addr} {u : xA × xG} {t : State} {H1 : Heap} {locs1 : List Loc} (ht : t.heap = H1) (hB : pex E ∧ u = (xa, G) ∧ xB D (xAw xa G H.size) u t) (hS : va_S A s.heap H1 locs1) (hce : H1[q9]? = some ce) (hv : ce.vm = .none) (hcl : s.vm.findClass E = some ce.cls) :
    vx_W p l e R s m args below meth c H1 locs1 (cells + mc) (slots + ms) (vx_MQ below Qc (xX D A xa G pexO) args s mcO msO A) (F0 m pc ls rest) q9 := by
  obtain ⟨h1, rfl, hB⟩ := hB
  have hW1 := hW.post ht hB hS
  exact vx_out (fun x hx => (hout x hx).elim) hlocks hce hv hcl (fun t' ht' hv' => ⟨(xa, G), trivial, ⟨hpe _ h1, rfl, hW1.B ht' hv'⟩, hW1.S.F ht'⟩) hW1.S.2.2 hc hs
theorem yr_i {a : Array Value} {post : Int32 → xA × xG → Prop} {Qc : Array Value → State → Outcome → State → Prop} {pex pexO : String → Prop} {mcO msO : Nat} (hout : (∀ x ∈ c.exceptionTable.toList, False) ∧ meth.locks = false) (hpe : ∀ E, pex E → pexO E) (hcs : cells + mc ≤ mcO ∧ slots + ms ≤ msO) (hW : xW D sa A s xa G H locs) (hr : vx_Run p l e R s m args below meth c H locs cells slots mc ms (F0 m pc ls st0) rest (va_Qi post (xB D (xAw xa G H.size)) (xAw xa G H.size) a) (xX D (xAw xa G H.size) xa G pex) (xAw xa G H.size))
    (kk : ∀ (r : Int32) (xa1 : xA) (G1 : xG) (H1 : Heap) (locs1 : List Loc), post r (xa1, G1) → xW D sa A s xa1 G1 H1 locs1 → W p l e R s m args below meth c H1 locs1 (cells + mc) (slots + ms) (vx_MQ below Qc (xX D A xa G pexO) args s mcO msO A) (F0 m (pc + 3) ls (.int r :: rest))) : W p l e R s m args below meth c H locs cells slots (vx_MQ below Qc (xX D A xa G pexO) args s mcO msO A) (F0 m pc ls st0) :=
  vx_calli hr hW.S (fun q _ h => hW.sub q h) hW.sub (fun q _ h => hW.sub q h) (fun E ce q9 u t H1 locs1 ht hvm hp hB hz hk hS hce hv hcl => xo_out (A0 := A) hout.1 hout.2 hpe hcs.1 hcs.2 hW ht hB hS hce hv hcl) (fun r u t H1 locs1 ht hvm hp hB hz hk hS => kk r u.1 u.2 H1 locs1 hp (hW.post ht hB hS))
theorem yr_v {a : Array Value} {post : xA × xG → Prop} {Qc : Array Value → State → Outcome → State → Prop} {pex pexO : String → Prop} {mcO msO : Nat} (hout : (∀ x ∈ c.exceptionTable.toList, False) ∧ meth.locks = false) (hpe : ∀ E, pex E → pexO E) (hcs : cells + mc ≤ mcO ∧ slots + ms ≤ msO) (hW : xW D sa A s xa G H locs) (hr : vx_Run p l e R s m args below meth c H locs cells slots mc ms (F0 m pc ls st0) rest (va_Qv post (xB D (xAw xa G H.size)) (xAw xa G H.size) a) (xX D (xAw xa G H.size) xa G pex) (xAw xa G H.size))
    (kk : ∀ (xa1 : xA) (G1 : xG) (H1 : Heap) (locs1 : List Loc), post (xa1, G1) → xW D sa A s xa1 G1 H1 locs1 → W p l e R s m args below meth c H1 locs1 (cells + mc) (slots + ms) (vx_MQ below Qc (xX D A xa G pexO) args s mcO msO A) (F0 m (pc + 3) ls rest)) : W p l e R s m args below meth c H locs cells slots (vx_MQ below Qc (xX D A xa G pexO) args s mcO msO A) (F0 m pc ls st0) :=
  vx_callv hr hW.S (fun q _ h => hW.sub q h) hW.sub (fun q _ h => hW.sub q h) (fun E ce q9 u t H1 locs1 ht hvm hp hB hz hk hS hce hv hcl => xo_out (A0 := A) hout.1 hout.2 hpe hcs.1 hcs.2 hW ht hB hS hce hv hcl) (fun u t H1 locs1 ht hvm hp hB hz hk hS => kk u.1 u.2 H1 locs1 hp (hW.post ht hB hS))
theorem vx_callr {S SX : Type} {A0 A1 : Nat → Prop} {H0 : Heap} {a : Array Value} {free : Addr → Prop} {post : S → Prop} {px : SX → Prop} {B : S → Nat → State → Prop} {BX : String → SX → State → Prop} {AX : Nat → Prop} (hr : vx_Run p l e R s m args below meth c H locs cells slots mc ms (F0 m pc ls st0) rest (va_Qr post B A1 a) (vx_X px BX AX) free) (hS : va_S A0 H0 H locs) (hA : ∀ q, q < H.size → A1 q → A0 q) (hf : ∀ q, free q → A0 q) (hAX : ∀ q, q < H.size → AX q → A0 q)
    (kx : ∀ (E : String) (ce : Cell) (q9 : Addr) (u : SX) (t : State) (H1 : Heap) (locs1 : List Loc), t.heap = H1 → s.vm.Alike t.vm → px u → BX E u t → H.size ≤ H1.size → (∀ q : Nat, q < H.size → ¬ AX q → H1[q]? = H[q]?) → va_S A0 H0 H1 locs1 → H1[q9]? = some ce → ce.vm = .none → s.vm.findClass E = some ce.cls → vx_W p l e R s m args below meth c H1 locs1 (cells + mc) (slots + ms) Q (F0 m pc ls rest) q9)
    (kk : ∀ (u : S) (ra : Nat) (t : State) (H1 : Heap) (locs1 : List Loc), t.heap = H1 → s.vm.Alike t.vm → post u → B u ra t → H.size ≤ H1.size → (∀ q : Nat, q < H.size → ¬ A1 q → H1[q]? = H[q]?) → va_S A0 H0 H1 locs1 → W p l e R s m args below meth c H1 locs1 (cells + mc) (slots + ms) Q (F0 m (pc + 3) ls (.ref ra :: rest))) : W p l e R s m args below meth c H locs cells slots Q (F0 m pc ls st0) := by
  intro T hT X
  rcases hr T hT X with ⟨v, st₀, t, T', L, h0, X', hL, e1, e2, ⟨⟨u, ra, hv, hp, hb⟩, hF⟩, st⟩ | ⟨q, st₀, t, T', L, E, ce, h0, X', hL, e1, e2, ⟨u, hp, hb, hF⟩, hce, hcv, hcl, st⟩
  · cases hv
    obtain ⟨k1, k2, k3⟩ := vx_keep h0 e1 hS hA hf hL hF
    obtain ⟨t2, a1, b1⟩ := kk u ra t T'.heap (locs ++ L) e1.symm (by rw [← e2]; exact X'.warmed.alike) hp hb k1 k2 k3 T' rfl X'
    exact ⟨t2, st t2 a1, b1⟩
  · obtain ⟨k1, k2, k3⟩ := vx_keep h0 e1 hS hAX hf hL hF
    obtain ⟨t2, a1, b1⟩ := kx E ce q u t T'.heap (locs ++ L) e1.symm (by rw [← e2]; exact X'.warmed.alike) hp hb k1 k2 k3 (by rw [e1]; exact hce) hcv hcl T' rfl X'
    exact ⟨t2, st.trans a1, b1⟩
theorem yr_r {a : Array Value} {post : Nat → xA × xG → Prop} {Qc : Array Value → State → Outcome → State → Prop} {pex pexO : String → Prop} {mcO msO : Nat} (hout : (∀ x ∈ c.exceptionTable.toList, False) ∧ meth.locks = false) (hpe : ∀ E, pex E → pexO E) (hcs : cells + mc ≤ mcO ∧ slots + ms ≤ msO) (hW : xW D sa A s xa G H locs) (hr : vx_Run p l e R s m args below meth c H locs cells slots mc ms (F0 m pc ls st0) rest (va_Qr (fun _ : xA × xG => True) (fun u a t => post a u ∧ xB D (xAw xa G H.size) u t) (xAw xa G H.size) a) (xX D (xAw xa G H.size) xa G pex) (xAw xa G H.size))
    (kk : ∀ (r : Nat) (xa1 : xA) (G1 : xG) (H1 : Heap) (locs1 : List Loc), post r (xa1, G1) → xW D sa A s xa1 G1 H1 locs1 → W p l e R s m args below meth c H1 locs1 (cells + mc) (slots + ms) (vx_MQ below Qc (xX D A xa G pexO) args s mcO msO A) (F0 m (pc + 3) ls (.ref r :: rest))) : W p l e R s m args below meth c H locs cells slots (vx_MQ below Qc (xX D A xa G pexO) args s mcO msO A) (F0 m pc ls st0) :=
  vx_callr hr hW.S (fun q _ h => hW.sub q h) hW.sub (fun q _ h => hW.sub q h) (fun E ce q9 u t H1 locs1 ht hvm hp hB hz hk hS hce hv hcl => xo_out (A0 := A) hout.1 hout.2 hpe hcs.1 hcs.2 hW ht hB hS hce hv hcl) (fun u ra t H1 locs1 ht hvm hp hB hz hk hS => kk ra u.1 u.2 H1 locs1 hB.1 (hW.post ht hB.2 hS))
/-- .. static, nothing comes back -/
theorem ys_v {post : xA × xG → Prop} {Qc : Array Value → State → Outcome → State → Prop} {pex pexO : String → Prop} {mcO msO : Nat} (S : CallFix p m c cc nL s args Ts own) (hM : xXv l y ws rm D sa xa G As post pex mc ms) (cw : CallB R s args own index y bytes maxL ret ws rm mc ms n ∧ (Cond.static y).before args s = true) (hout : (∀ x ∈ c.exceptionTable.toList, False) ∧ meth.locks = false) (hpe : ∀ E, pex E → pexO E) (hcs : cells + mc ≤ mcO ∧ slots + ms ≤ msO) (hW : xW D sa A s xa G H locs) (hst : st0 = As.reverse ++ rest) (hn : As.length = n) (hls : ls.size = nL) (hroom : (rest.map fun v => v.category).sum ≤ 8) (hdg : decode cc pc = .ok (.invokestatic index, 3)) (hf : cells + mc ≤ R.cells ∧ slots + ms ≤ R.slots)
    (kk : ∀ (xa1 : xA) (G1 : xG) (H1 : Heap) (locs1 : List Loc), post (xa1, G1) → xW D sa A s xa1 G1 H1 locs1 → W p l e R s m args below meth c H1 locs1 (cells + mc) (slots + ms) (vx_MQ below Qc (xX D A xa G pexO) args s mcO msO A) (F0 m (pc + 3) ls rest)) : W p l e R s m args below meth c H locs cells slots (vx_MQ below Qc (xX D A xa G pexO) args s mcO msO A) (F0 m pc ls st0) := by
  subst hst
  exact yr_v hout hpe hcs hW (vx_runS S (hM H.size) cw hW.preS rfl hn hls rfl (lv_room hroom) hdg hf) kk
/-- .. an object's, a reference comes back -/
theorem yv_r {post : Nat → xA × xG → Prop} {Qc : Array Value → State → Outcome → State → Prop} {pex pexO : String → Prop} {mcO msO k i ci : Nat} {fs : List Value} {q : vw_C} (S : CallFix p m c cc nL s args Ts own) (hM : xXr l y ws rm D sa xa G (.ref (xa k i) :: As) post pex mc ms) (cw : CallW R s args own C index y bytes maxL ret ws rm mc ms n) (hout : (∀ x ∈ c.exceptionTable.toList, False) ∧ meth.locks = false) (hpe : ∀ E, pex E → pexO E) (hcs : cells + mc ≤ mcO ∧ slots + ms ≤ msO) (hW : xW D sa A s xa G H locs) (hG : G k i = some (.inr (ci, fs))) (hc : vwCl[ci]? = some q) (hC : q.1 = C) (hst : st0 = As.reverse ++ .ref (xa k i) :: rest) (hn : As.length = n) (hls : ls.size = nL) (hroom : (rest.map fun v => v.category).sum ≤ 8) (hdg : decode cc pc = .ok (.invokevirtual index, 3)) (hf : cells + mc ≤ R.cells ∧ slots + ms ≤ R.slots)
    (kk : ∀ (r : Nat) (xa1 : xA) (G1 : xG) (H1 : Heap) (locs1 : List Loc), post r (xa1, G1) → xW D sa A s xa1 G1 H1 locs1 → W p l e R s m args below meth c H1 locs1 (cells + mc) (slots + ms) (vx_MQ below Qc (xX D A xa G pexO) args s mcO msO A) (F0 m (pc + 3) ls (.ref r :: rest))) : W p l e R s m args below meth c H locs cells slots (vx_MQ below Qc (xX D A xa G pexO) args s mcO msO A) (F0 m pc ls st0) := by
  subst hst
  exact yr_r hout hpe hcs hW (vx_runV S (hM H.size) cw (hW.preV hG hc hC) rfl hn hls rfl (lv_room hroom) hdg hf) kk
/-! the ends -/
theorem xe_i {post : Int32 → xA × xG → Prop} {v : Int32} (hexec : p.tables.exec = Jvm.exec) (hb : c.code = cc) {ty : FieldType} (hr : meth.sig.returnType = some ty) (hn : narrow ty (.int v) = .int v) (hlocks : meth.locks = false) (hW : xW D sa A s xa G H locs) (hp : post v (xa, G)) (hc : cells ≤ mc) (hs : slots ≤ ms) (hdg : decode cc pc = .ok (.ireturn, 1)) :
    W p l e R s m args below meth c H locs cells slots (MQ below (va_Qi post (xB D A) A) args s mc ms A) (F0 m pc ls [.int v]) :=
  W.widen hc hs (W.zret (v := v) hexec hb hr hn (fun t ht hv => ⟨⟨v, (xa, G), rfl, hp, hW.B ht hv.alike⟩, hW.S.F ht⟩) hW.S.2.2 hdg hlocks)
theorem xe_v {post : xA × xG → Prop} (hexec : p.tables.exec = Jvm.exec) (hb : c.code = cc) (hr : meth.sig.returnType = none) (hlocks : meth.locks = false) (hW : xW D sa A s xa G H locs) (hp : post (xa, G)) (hc : cells ≤ mc) (hs : slots ≤ ms) (hdg : decode cc pc = .ok (.return_, 1)) :
    W p l e R s m args below meth c H locs cells slots (MQ below (va_Qv post (xB D A) A) args s mc ms A) (F0 m pc ls []) :=
  W.widen hc hs (W.vret hexec hb hr (fun t ht hv => ⟨⟨(xa, G), rfl, hp, hW.B ht hv.alike⟩, hW.S.F ht⟩) hW.S.2.2 hdg hlocks)
theorem xe_q {post : Option Nat → xA × xG → Prop} {r : Option Nat} (hexec : p.tables.exec = Jvm.exec) (hb : c.code = cc) {nm : String} (hr : meth.sig.returnType = some (.object nm)) (hlocks : meth.locks = false) (hW : xW D sa A s xa G H locs) (hp : post r (xa, G)) (hc : cells ≤ mc) (hs : slots ≤ ms) (hdg : decode cc pc = .ok (.areturn, 1)) :
    W p l e R s m args below meth c H locs cells slots (MQ below (va_Qq post (xB D A) A) args s mc ms A) (F0 m pc ls [va_rf r]) :=
  W.widen hc hs (W.aret (v := va_rf r) hexec hb hr (Or.inl ⟨_, rfl⟩) (by cases r with | none => exact Or.inl rfl | some a => exact Or.inr ⟨a, rfl⟩) (fun t ht hv => ⟨⟨r, (xa, G), rfl, hp, hW.B ht hv.alike⟩, hW.S.F ht⟩) hW.S.2.2 hdg hlocks)
theorem ye_r {post : Nat → xA × xG → Prop} {XC : String → State → State → Prop} {r : Nat} (hexec : p.tables.exec = Jvm.exec) (hb : c.code = cc) {nm : String} (hr : meth.sig.returnType = some (.object nm)) (hlocks : meth.locks = false) (hW : xW D sa A s xa G H locs) (hp : post r (xa, G)) (hc : cells ≤ mc) (hs : slots ≤ ms) (hdg : decode cc pc = .ok (.areturn, 1)) :
    W p l e R s m args below meth c H locs cells slots (vx_MQ below (va_Qr (fun _ : xA × xG => True) (fun u a t => post a u ∧ xB D A u t) A) XC args s mc ms A) (F0 m pc ls [.ref r]) :=
  vx_ret (W.widen hc hs (W.aret (v := .ref r) hexec hb hr (Or.inl ⟨_, rfl⟩) (Or.inr ⟨r, rfl⟩) (fun t ht hv => ⟨⟨(xa, G), r, rfl, trivial, hp, hW.B ht hv.alike⟩, hW.S.F ht⟩) hW.S.2.2 hdg hlocks))
theorem ye_i {post : Int32 → xA × xG → Prop} {XC : String → State → State → Prop} {v : Int32} (hexec : p.tables.exec = Jvm.exec) (hb : c.code = cc) {ty : FieldType} (hr : meth.sig.returnType = some ty) (hn : narrow ty (.int v) = .int v) (hlocks : meth.locks = false) (hW : xW D sa A s xa G H locs) (hp : post v (xa, G)) (hc : cells ≤ mc) (hs : slots ≤ ms) (hdg : decode cc pc = .ok (.ireturn, 1)) :
    W p l e R s m args below meth c H locs cells slots (vx_MQ below (va_Qi post (xB D A) A) XC args s mc ms A) (F0 m pc ls [.int v]) := vx_ret (xe_i hexec hb hr hn hlocks hW hp hc hs hdg)
theorem ye_v {post : xA × xG → Prop} {XC : String → State → State → Prop} (hexec : p.tables.exec = Jvm.exec) (hb : c.code = cc) (hr : meth.sig.returnType = none) (hlocks : meth.locks = false) (hW : xW D sa A s xa G H locs) (hp : post (xa, G)) (hc : cells ≤ mc) (hs : slots ≤ ms) (hdg : decode cc pc = .ok (.return_, 1)) :
    W p l e R s m args below meth c H locs cells slots (vx_MQ below (va_Qv post (xB D A) A) XC args s mc ms A) (F0 m pc ls []) := vx_ret (xe_v hexec hb hr hlocks hW hp hc hs hdg)
/-- 'throw new E("text")' in a method that catches nothing -/
theorem y_throw {Qc : Array Value → State → Outcome → State → Prop} {pex : String → Prop} {cls text : String} {ik is ic : Nat} (hexec : p.tables.exec = Jvm.exec) (hb : c.code = cc) (hl : l.stackTraces = false)
    (hown : s.vm.findClass RX4 = some m.cls) (hce : cls ∈ xExc ∧ Bundle.fit cls = true ∧ (∀ w ∈ (vx_atS RX4 ic cls ["java/lang/RuntimeException", "java/lang/Exception"]).filter (fun w => !goodWord w), w ∈ [Cond.castable cls cls, .declares (Bundle.initS "java/lang/RuntimeException"), .declares (Bundle.initS "java/lang/Exception"), .declares (Bundle.initS Bundle.tN)]) ∧ (∀ w ∈ Cond.classLink RX4 ik cls :: Cond.initialized cls :: vx_atS RX4 ic cls ["java/lang/RuntimeException", "java/lang/Exception"], vx_ot w = true))
    (hk : (Cond.classLink RX4 ik cls).before args s = true) (hini : (Cond.initialized cls).before args s = true) (hat : ∀ w ∈ (vx_atS RX4 ic cls ["java/lang/RuntimeException", "java/lang/Exception"]).filter goodWord, w.before args s = true)
    (hstr : (is, text) ∈ xStrs) (hW : xW D sa A s xa G H locs) (hsize : ls.size = c.maxLocals)
    (d0 : decode cc pc = .ok (.new ik, 3)) (d3 : decode cc (pc + 3) = .ok (.dup, 1)) (d4 : decode cc (pc + 4) = .ok (.ldc is, 2)) (d6 : decode cc (pc + 6) = .ok (.invokespecial ic, 3)) (d9 : decode cc (pc + 9) = .ok (.athrow, 1))
    (hout : (∀ x ∈ c.exceptionTable.toList, False) ∧ meth.locks = false)
    (hRframes : 5 < R.frames) (hRlocals : (rest.map fun v => v.category).sum + 82 ≤ R.locals) (hR : cells + 1 ≤ R.cells ∧ slots + 6 ≤ R.slots) (hpe : pex cls) (hcs : cells + 1 ≤ mc ∧ slots + 6 ≤ ms) :
    W p l e R s m args below meth c H locs cells slots (vx_MQ below Qc (xX D A xa G pex) args s mc ms A) (F0 m pc ls rest) := by
  have hEv := hW.2.2.2.2.2
  refine vx_throwS (sa := sa is) (text := text) (names := ["java/lang/RuntimeException", "java/lang/Exception"]) hexec hb hl hown hce.2.1 (by decide +kernel) hk hini (hEv.2.2.1 _ hstr) (vx_hat hat hce.2.2.1 (vx_c (va_Nw.use rfl (hEv.2.2.2.1 _ hce.1)) (vx_c (va_Nw.use rfl (hEv.2.2.2.2.1 _ (by decide))) (vx_c (va_Nw.use rfl (hEv.2.2.2.2.1 _ (by decide))) (vx_c (va_Nw.use rfl (hEv.2.2.2.2.1 _ (by decide))) vx_n))))) hce.2.2.2 hEv.1 hEv.2.1 hW.S hsize d0 d3 d4 d6 d9 (fun x hx => (hout.1 x hx).elim) hRframes (by simpa using hRlocals) hR.1 hR.2 hout.2 ?_ hW.S.2.2 hcs.1 hcs.2
  intro t hv hz hk9
  have h1 : xWp D xa G t.heap := ⟨fun k i e9 h9 => (hW.1.1 k i e9 h9).kept (hk9 _ (hW.lt h9)), hW.1.2⟩
  exact ⟨(xa, G), trivial, ⟨hpe, rfl, h1, hW.2.1, va_K.moved hv hW.K⟩, Nat.le_trans hW.S.1 hz, fun q h2 h3 => by rw [hk9 q (Nat.lt_of_lt_of_le h2 hW.S.1)]; exact hW.S.2.1 q h2 h3⟩
end XC
end
section
/-! the three kinds of exceptions -/
theorem ce_iob : xIob ∈ xExc ∧ Bundle.fit xIob = true ∧ (∀ w ∈ (vx_atS RX4 161 xIob ["java/lang/RuntimeException", "java/lang/Exception"]).filter (fun w => !goodWord w), w ∈ [Cond.castable xIob xIob, .declares (Bundle.initS "java/lang/RuntimeException"), .declares (Bundle.initS "java/lang/Exception"), .declares (Bundle.initS Bundle.tN)]) ∧ (∀ w ∈ Cond.classLink RX4 157 xIob :: Cond.initialized xIob :: vx_atS RX4 161 xIob ["java/lang/RuntimeException", "java/lang/Exception"], vx_ot w = true) := ⟨by decide +kernel, by decide +kernel, by decide +kernel, by decide +kernel⟩
theorem ce_ise : xIse ∈ xExc ∧ Bundle.fit xIse = true ∧ (∀ w ∈ (vx_atS RX4 46 xIse ["java/lang/RuntimeException", "java/lang/Exception"]).filter (fun w => !goodWord w), w ∈ [Cond.castable xIse xIse, .declares (Bundle.initS "java/lang/RuntimeException"), .declares (Bundle.initS "java/lang/Exception"), .declares (Bundle.initS Bundle.tN)]) ∧ (∀ w ∈ Cond.classLink RX4 42 xIse :: Cond.initialized xIse :: vx_atS RX4 46 xIse ["java/lang/RuntimeException", "java/lang/Exception"], vx_ot w = true) := ⟨by decide +kernel, by decide +kernel, by decide +kernel, by decide +kernel⟩
theorem ce_iae : xIae ∈ xExc ∧ Bundle.fit xIae = true ∧ (∀ w ∈ (vx_atS RX4 66 xIae ["java/lang/RuntimeException", "java/lang/Exception"]).filter (fun w => !goodWord w), w ∈ [Cond.castable xIae xIae, .declares (Bundle.initS "java/lang/RuntimeException"), .declares (Bundle.initS "java/lang/Exception"), .declares (Bundle.initS Bundle.tN)]) ∧ (∀ w ∈ Cond.classLink RX4 62 xIae :: Cond.initialized xIae :: vx_atS RX4 66 xIae ["java/lang/RuntimeException", "java/lang/Exception"], vx_ot w = true) := ⟨by decide +kernel, by decide +kernel, by decide +kernel, by decide +kernel⟩
end
section
/-! NUMBERS -/
theorem x_inc (a n : Nat) {k : Int} (h : k = (n : Int)) : nI a + Int32.ofInt k = nI (a + n) := by
  subst h
  rw [← nI_add]
  rfl
theorem x_t0 : (0 : Int32).toInt = 0 := by decide +kernel
theorem x_tm1 : (-1 : Int32).toInt = -1 := by decide +kernel
theorem x_eqN {a b : Nat} (ha : a < 2 ^ 31) (hb : b < 2 ^ 31) : nI a = nI b ↔ a = b := nI_eq ha hb
theorem x_eqZ {a : Nat} (ha : a < 2 ^ 31) : nI a = 0 ↔ a = 0 := by rw [← nI_0]; exact nI_eq ha (by omega)
theorem x_nat {x : Int32} {n : Nat} (h0 : 0 ≤ x.toInt) (h1 : x.toInt < n) : ∃ i : Nat, i < n ∧ x = nI i := by
  have hb := x.toInt_lt
  refine ⟨x.toInt.toNat, by omega, Int32.toInt_inj.mp ?_⟩
  rw [nI_toInt (by omega)]
  omega
/-- an answer that is a truth -/
def tv (r : Int32) (P : Prop) : Prop := (r = 0 ∨ r = 1) ∧ (¬ r = 0 ↔ P)
theorem tv.t {r : Int32} {P : Prop} (h : tv r P) (h0 : ¬ r = 0) : P := h.2.mp h0
theorem tv.f {r : Int32} {P : Prop} (h : tv r P) (h0 : r = 0) : ¬ P := fun hp => h.2.mpr hp h0
theorem tv.yes {P : Prop} (h : P) : tv 1 P := ⟨Or.inr rfl, fun _ => h, fun _ => by decide⟩
theorem tv.no {P : Prop} (h : ¬ P) : tv 0 P := ⟨Or.inl rfl, fun z => absurd rfl z, fun z => absurd z h⟩
theorem tv.one {P : Prop} (h : P) : tv (nI 1) P := tv.yes h
theorem tv.zero {P : Prop} (h : ¬ P) : tv (nI 0) P := tv.no h
theorem tv.to {r : Int32} {P P' : Prop} (h : tv r P) (e : P ↔ P') : tv r P' := ⟨h.1, h.2.trans e⟩
theorem tv.cl {r : Int32} {P : Prop} (h : tv r P) : (r = 1 ∧ P) ∨ (r = 0 ∧ ¬ P) := by
  rcases h.1 with h0 | h0
  · exact Or.inr ⟨h0, h.f h0⟩
  · exact Or.inl ⟨h0, h.t (by rw [h0]; decide)⟩
theorem tv.nar {r : Int32} {P : Prop} (h : tv r P) : narrow .boolean (.int r) = .int r := by
  rcases h.1 with rfl | rfl <;> rfl
theorem tv.uniq {r r' : Int32} {P P' : Prop} (h : tv r P) (h' : tv r' P') (e : P ↔ P') : r = r' := by
  rcases h.cl with ⟨a, b⟩ | ⟨a, b⟩ <;> rcases h'.cl with ⟨a', b'⟩ | ⟨a', b'⟩
  · rw [a, a']
  · exact absurd (e.mp b) b'
  · exact absurd (e.mpr b') b
  · rw [a, a']
/-- a truth as a number -/
theorem tv.nat {r : Int32} {P : Prop} (h : tv r P) : ∃ n : Nat, n < 2 ∧ r = nI n ∧ (n = 1 ↔ P) := by
  rcases h.cl with ⟨a, b⟩ | ⟨a, b⟩
  · exact ⟨1, by omega, a, fun _ => b, fun _ => rfl⟩
  · exact ⟨0, by omega, a, fun z => absurd z (by omega), fun z => absurd z b⟩
theorem tv.ofNat {n : Nat} (h : n < 2) : tv (nI n) (n = 1) := by
  rcases (show n = 0 ∨ n = 1 by omega) with rfl | rfl
  · exact tv.zero (by omega)
  · exact tv.one rfl
/-! THE REFERENCE'S STATE: row j of 'σ' is its field j (a number at place 0, or an array); its order of stations 'ρ' and its last code 'la' apart -/
abbrev Sg : Type := Nat → Nat → Nat
def sup (σ : Sg) (j i v : Nat) : Sg := fun j' i' => if j' = j ∧ i' = i then v else σ j' i'
theorem sup_row (σ : Sg) {j j' : Nat} (i v : Nat) (h : j' ≠ j) : sup σ j i v j' = σ j' := by funext q; simp [sup, h]
theorem sup_self (σ : Sg) (j i v : Nat) : sup σ j i v j i = v := by simp [sup]
theorem sup_ne (σ : Sg) {j i v j' i' : Nat} (h : ¬ (j' = j ∧ i' = i)) : sup σ j i v j' i' = σ j' i' := by simp [sup, h]
def rup (ρ : Nat → Nat) (i v : Nat) : Nat → Nat := fun q => if q = i then v else ρ q
def mlen : Nat → Nat := fun j => match j with
  | 1 => 12
  | 2 => 12
  | 3 => 144
  | 4 => 12
  | 8 => 5
  | 9 => 10
  | 10 => 10
  | 11 => 10
  | 19 => 8
  | _ => 80
def mty : Nat → Nat := fun j => match j with
  | 2 => 5
  | 17 => 5
  | 18 => 5
  | _ => 4
def mfs (xa : xA) (σ : Sg) (la : Nat) : List Value := [.int (nI (σ 0 0)), .ref (xa 20 1), .ref (xa 20 2), .ref (xa 20 3), .ref (xa 20 4), .int (nI (σ 5 0)), .ref (xa 20 6), .int (nI (σ 7 0)), .ref (xa 20 8), .ref (xa 20 9), .ref (xa 20 10), .ref (xa 20 11), .int (nI (σ 12 0)), .ref (xa 20 13), .ref (xa 20 14), .ref (xa 20 15), .ref (xa 20 16), .ref (xa 20 17), .ref (xa 20 18), .ref (xa 20 19), .int (nI la)]
def marr (D : xD) (σ : Sg) (j : Nat) : va_E := .inl (D.2 (mty j), mlen j, .inl (fun i => nI (σ j i)))
def mE (D : xD) (xa : xA) (σ : Sg) (ρ : Nat → Nat) (la : Nat) : Nat → Option va_E := fun j => match j with
  | 0 => some (.inr (5, mfs xa σ la))
  | 5 => none
  | 7 => none
  | 12 => none
  | 19 => some (.inl (D.2 4, 8, .inl (fun i => nI (ρ i))))
  | j => if j < 20 then some (marr D σ j) else none
def mG (G0 : xG) (D : xD) (xa : xA) (σ : Sg) (ρ : Nat → Nat) (la : Nat) : xG := fun k i => if k = 20 then mE D xa σ ρ la i else G0 k i
theorem mG_obj (G0 : xG) (D : xD) (xa : xA) (σ : Sg) (ρ : Nat → Nat) (la : Nat) : mG G0 D xa σ ρ la 20 0 = some (.inr (5, mfs xa σ la)) := rfl
/-- the arrays but 'order' -/
def mArr (j : Nat) : Prop := j < 19 ∧ j ≠ 0 ∧ j ≠ 5 ∧ j ≠ 7 ∧ j ≠ 12
theorem mE_arr (D : xD) (xa : xA) (σ : Sg) (ρ : Nat → Nat) (la : Nat) {j : Nat} (h : mArr j) : mE D xa σ ρ la j = some (marr D σ j) := by
  obtain ⟨h1, h2, h3, h4, h5⟩ := h
  match j with
  | 0 | 5 | 7 | 12 => omega
  | 1 | 2 | 3 | 4 | 6 | 8 | 9 | 10 | 11 | 13 | 14 | 15 | 16 | 17 | 18 => rfl
  | j + 19 => omega
theorem mG_arr (G0 : xG) (D : xD) (xa : xA) (σ : Sg) (ρ : Nat → Nat) (la : Nat) {j : Nat} (h : mArr j) : mG G0 D xa σ ρ la 20 j = some (marr D σ j) := (if_pos rfl).trans (mE_arr D xa σ ρ la h)
theorem nI_upd (f : Nat → Nat) (p v : Nat) : upd (fun i => nI (f i)) p (nI v) = fun i => nI (rup f p v i) := by
  funext q
  by_cases h : q = p <;> simp [upd, rup, h]
theorem mG_ast (G0 : xG) (D : xD) (xa : xA) (σ : Sg) (ρ : Nat → Nat) (la : Nat) {j : Nat} (h : mArr j) (p v : Nat) : xup (mG G0 D xa σ ρ la) 20 j (.inl (D.2 (mty j), mlen j, .inl (upd (fun i => nI (σ j i)) p (nI v)))) = mG G0 D xa (sup σ j p v) ρ la := by
  funext k q
  by_cases hk : k = 20
  · subst hk
    by_cases hq : q = j
    · subst hq
      rw [xup_self, mG_arr G0 D xa _ ρ la h]
      unfold marr
      congr 5
      funext x
      by_cases hx : x = p <;> simp [upd, sup, hx]
    · rw [xup_ne _ _ (by simp [hq])]
      have hr : sup σ j p v q = σ q := sup_row σ p v hq
      obtain ⟨h1, h2, h3, h4, h5⟩ := h
      show mE D xa σ ρ la q = mE D xa (sup σ j p v) ρ la q
      have f0 : sup σ j p v 0 0 = σ 0 0 := sup_ne σ (by omega)
      have f5 : sup σ j p v 5 0 = σ 5 0 := sup_ne σ (by omega)
      have f7 : sup σ j p v 7 0 = σ 7 0 := sup_ne σ (by omega)
      have f12 : sup σ j p v 12 0 = σ 12 0 := sup_ne σ (by omega)
      have hm : marr D (sup σ j p v) q = marr D σ q := by unfold marr; rw [hr]
      unfold mE
      split <;> first | rfl | (simp only [mfs, f0, f5, f7, f12]; done) | (rw [hm])
  · rw [xup_ne _ _ (by simp [hk])]
    simp [mG, hk]
theorem mG_ost (G0 : xG) (D : xD) (xa : xA) (σ : Sg) (ρ : Nat → Nat) (la : Nat) (p v : Nat) : xup (mG G0 D xa σ ρ la) 20 19 (.inl (D.2 4, 8, .inl (upd (fun i => nI (ρ i)) p (nI v)))) = mG G0 D xa σ (rup ρ p v) la := by
  funext k q
  by_cases hk : k = 20
  · subst hk
    by_cases hq : q = 19
    · subst hq
      rw [xup_self, nI_upd]
      rfl
    · rw [xup_ne _ _ (by simp [hq])]
      show mE D xa σ ρ la q = mE D xa σ (rup ρ p v) la q
      unfold mE
      split <;> first | rfl | omega
  · rw [xup_ne _ _ (by simp [hk])]
    simp [mG, hk]
theorem mG_la (G0 : xG) (D : xD) (xa : xA) (σ : Sg) (ρ : Nat → Nat) (la v : Nat) : xup (mG G0 D xa σ ρ la) 20 0 (.inr (5, (mfs xa σ la).set 20 (.int (nI v)))) = mG G0 D xa σ ρ v := by
  funext k q
  by_cases hk : k = 20
  · subst hk
    by_cases hq : q = 0
    · subst hq
      rw [xup_self]
      rfl
    · rw [xup_ne _ _ (by simp [hq])]
      show mE D xa σ ρ la q = mE D xa σ ρ v q
      unfold mE
      split <;> first | rfl | omega
  · rw [xup_ne _ _ (by simp [hk])]
    simp [mG, hk]
theorem mG_sc (G0 : xG) (D : xD) (xa : xA) (σ : Sg) (ρ : Nat → Nat) (la : Nat) {j : Nat} (h : j = 0 ∨ j = 5 ∨ j = 7 ∨ j = 12) (v : Nat) : xup (mG G0 D xa σ ρ la) 20 0 (.inr (5, (mfs xa σ la).set j (.int (nI v)))) = mG G0 D xa (sup σ j 0 v) ρ la := by
  have key : (mfs xa σ la).set j (.int (nI v)) = mfs xa (sup σ j 0 v) la := by
    rcases h with rfl | rfl | rfl | rfl <;> rfl
  funext k q
  by_cases hk : k = 20
  · subst hk
    by_cases hq : q = 0
    · subst hq
      rw [xup_self, key]
      rfl
    · rw [xup_ne _ _ (by simp [hq])]
      show mE D xa σ ρ la q = mE D xa (sup σ j 0 v) ρ la q
      by_cases hj : q = j
      · subst hj
        rcases h with rfl | rfl | rfl | rfl
        · exact absurd rfl hq
        · rfl
        · rfl
        · rfl
      · have hm : marr D (sup σ j 0 v) q = marr D σ q := by unfold marr; rw [sup_row σ 0 v hj]
        unfold mE
        split <;> first | rfl | omega | rw [hm]
  · rw [xup_ne _ _ (by simp [hk])]
    simp [mG, hk]
section MR
variable {p : Program} {l : Launch} {e : Env} {R : Room} {s : State} {m : MethodId} {args : Array Value} {below : List Frame} {meth : Method} {c : Code} {H : Heap} {locs : List Loc} {cells slots : Nat} {Q : State → Prop}
variable {cc : ByteArray} {pc : Nat} {ls : Array Slot} {rest : List Value} {D : xD} {sa : Nat → Nat} {A : Nat → Prop} {xa : xA} {G0 : xG} {σ : Sg} {ρ : Nat → Nat} {la : Nat}
theorem m_get (hexec : p.tables.exec = Jvm.exec) (hb : c.code = cc) {index : Nat} {Ts : List Cond} (hts : ∀ w ∈ Ts, w.before args s = true) (hin : ∀ w ∈ wsX50, w ∈ Ts) (hown : s.vm.findClass RX5 = some m.cls) (hW : xW D sa A s xa (mG G0 D xa σ ρ la) H locs) (j : Nat) (hj : j < 21) (hsame : (TX5 j).1 = "RestitutoryModel") (hlink : (Cond.fieldLink RX5 index "RestitutoryModel" (TX5 j).2.1 (TX5 j).2.2.1).before args s = true) {v : Value} (hv : (mfs xa σ la)[j]? = some v) (hdg : decode cc pc = .ok (.getfield index, 3))
    (kk : W p l e R s m args below meth c H locs cells slots Q (F0 m (pc + 3) ls (v :: rest))) : W p l e R s m args below meth c H locs cells slots Q (F0 m pc ls (.ref (xa 20 0) :: rest)) :=
  x_get hexec hb hts hin hown hW 20 0 (mG_obj G0 D xa σ ρ la) rfl j hj hlink hsame hv hdg kk
theorem m_put (hexec : p.tables.exec = Jvm.exec) (hb : c.code = cc) {index : Nat} {Ts : List Cond} (hts : ∀ w ∈ Ts, w.before args s = true) (hin : ∀ w ∈ wsX50, w ∈ Ts) (hown : s.vm.findClass RX5 = some m.cls) (hW : xW D sa A s xa (mG G0 D xa σ ρ la) H locs) (j : Nat) (hj : j = 0 ∨ j = 5 ∨ j = 7 ∨ j = 12) (hlink : (Cond.fieldLink RX5 index "RestitutoryModel" (TX5 j).2.1 (TX5 j).2.2.1).before args s = true) {v : Nat} (hdg : decode cc pc = .ok (.putfield index, 3))
    (kk : ∀ (H1 : Heap) (locs1 : List Loc), xW D sa A s xa (mG G0 D xa (sup σ j 0 v) ρ la) H1 locs1 → W p l e R s m args below meth c H1 locs1 cells slots Q (F0 m (pc + 3) ls rest)) : W p l e R s m args below meth c H locs cells slots Q (F0 m pc ls (.int (nI v) :: .ref (xa 20 0) :: rest)) := by
  refine x_put (ty := .int) hexec hb hts hin tyX5 tyX5_ok nmX5 hown hW 20 0 (mG_obj G0 D xa σ ρ la) rfl j (by omega) hlink (by rcases hj with rfl | rfl | rfl | rfl <;> rfl) (by rcases hj with rfl | rfl | rfl | rfl <;> rfl) (by rcases hj with rfl | rfl | rfl | rfl <;> decide +kernel) rfl rfl (by rcases hj with rfl | rfl | rfl | rfl <;> exact Nat.le_of_ble_eq_true rfl) hdg fun H1 locs1 h1 => kk H1 locs1 ?_
  rw [← mG_sc G0 D xa σ ρ la hj v]
  exact h1
theorem m_putLa (hexec : p.tables.exec = Jvm.exec) (hb : c.code = cc) {index : Nat} {Ts : List Cond} (hts : ∀ w ∈ Ts, w.before args s = true) (hin : ∀ w ∈ wsX50, w ∈ Ts) (hown : s.vm.findClass RX5 = some m.cls) (hW : xW D sa A s xa (mG G0 D xa σ ρ la) H locs) (hlink : (Cond.fieldLink RX5 index "RestitutoryModel" (TX5 20).2.1 (TX5 20).2.2.1).before args s = true) {v : Nat} (hdg : decode cc pc = .ok (.putfield index, 3))
    (kk : ∀ (H1 : Heap) (locs1 : List Loc), xW D sa A s xa (mG G0 D xa σ ρ v) H1 locs1 → W p l e R s m args below meth c H1 locs1 cells slots Q (F0 m (pc + 3) ls rest)) : W p l e R s m args below meth c H locs cells slots Q (F0 m pc ls (.int (nI v) :: .ref (xa 20 0) :: rest)) := by
  refine x_put (ty := .int) hexec hb hts hin tyX5 tyX5_ok nmX5 hown hW 20 0 (mG_obj G0 D xa σ ρ la) rfl 20 (by omega) hlink rfl rfl (by decide +kernel) rfl rfl (Nat.le_of_ble_eq_true rfl) hdg fun H1 locs1 h1 => kk H1 locs1 ?_
  rw [← mG_la G0 D xa σ ρ la v]
  exact h1
theorem m_ild (hexec : p.tables.exec = Jvm.exec) (hb : c.code = cc) (hW : xW D sa A s xa (mG G0 D xa σ ρ la) H locs) (j N : Nat) (hj : mArr j) (ht : mty j = 4) (hN : mlen j = N) (i : Nat) (hlt : i < N) {v : Nat} (hv : σ j i = v) (hdg : decode cc pc = .ok (.iaload, 1))
    (kk : W p l e R s m args below meth c H locs cells slots Q (F0 m (pc + 1) ls (.int (nI v) :: rest))) : W p l e R s m args below meth c H locs cells slots Q (F0 m pc ls (.int (nI i) :: .ref (xa 20 j) :: rest)) := by
  subst hv
  have hG := mG_arr G0 D xa σ ρ la hj
  unfold marr at hG
  rw [ht, hN] at hG
  refine x_ild hexec hb hW 20 j hG i rfl hlt ?_ rfl hdg kk
  have h1 := hj.1
  have h2 : mlen j ≤ 144 := by unfold mlen; split <;> omega
  omega
theorem m_zld (hexec : p.tables.exec = Jvm.exec) (hb : c.code = cc) (hW : xW D sa A s xa (mG G0 D xa σ ρ la) H locs) (j N : Nat) (hj : mArr j) (ht : mty j = 5) (hN : mlen j = N) (i : Nat) (hlt : i < N) {v : Nat} (hv : σ j i = v) (hdg : decode cc pc = .ok (.baload, 1))
    (kk : W p l e R s m args below meth c H locs cells slots Q (F0 m (pc + 1) ls (.int (nI v) :: rest))) : W p l e R s m args below meth c H locs cells slots Q (F0 m pc ls (.int (nI i) :: .ref (xa 20 j) :: rest)) := by
  subst hv
  have hG := mG_arr G0 D xa σ ρ la hj
  unfold marr at hG
  rw [ht, hN] at hG
  refine x_zld hexec hb hW 20 j hG i rfl hlt ?_ rfl hdg kk
  have h1 := hj.1
  have h2 : mlen j ≤ 144 := by unfold mlen; split <;> omega
  omega
theorem m_old (hexec : p.tables.exec = Jvm.exec) (hb : c.code = cc) (hW : xW D sa A s xa (mG G0 D xa σ ρ la) H locs) (i : Nat) (hlt : i < 8) {v : Nat} (hv : ρ i = v) (hdg : decode cc pc = .ok (.iaload, 1))
    (kk : W p l e R s m args below meth c H locs cells slots Q (F0 m (pc + 1) ls (.int (nI v) :: rest))) : W p l e R s m args below meth c H locs cells slots Q (F0 m pc ls (.int (nI i) :: .ref (xa 20 19) :: rest)) :=
  x_ild hexec hb hW 20 19 (n := 8) (f := fun i => nI (ρ i)) rfl i rfl hlt (by omega) (congrArg nI hv) hdg kk
theorem m_ist (hexec : p.tables.exec = Jvm.exec) (hb : c.code = cc) (hW : xW D sa A s xa (mG G0 D xa σ ρ la) H locs) (j N : Nat) (hj : mArr j) (ht : mty j = 4) (hN : mlen j = N) (i : Nat) (hlt : i < N) {v : Nat} (hdg : decode cc pc = .ok (.iastore, 1))
    (kk : ∀ (H1 : Heap) (locs1 : List Loc), xW D sa A s xa (mG G0 D xa (sup σ j i v) ρ la) H1 locs1 → W p l e R s m args below meth c H1 locs1 cells slots Q (F0 m (pc + 1) ls rest)) : W p l e R s m args below meth c H locs cells slots Q (F0 m pc ls (.int (nI v) :: .int (nI i) :: .ref (xa 20 j) :: rest)) := by
  have hG := mG_arr G0 D xa σ ρ la hj
  have hE := mG_ast G0 D xa σ ρ la hj i v
  unfold marr at hG
  rw [ht, hN] at hG
  rw [ht, hN] at hE
  refine x_ist hexec hb hW 20 j hG i rfl hlt ?_ hdg (fun H1 locs1 h1 => kk H1 locs1 (by rw [← hE]; exact h1))
  have h1 := hj.1
  have h2 : mlen j ≤ 144 := by unfold mlen; split <;> omega
  omega
theorem m_zst (hexec : p.tables.exec = Jvm.exec) (hb : c.code = cc) (hW : xW D sa A s xa (mG G0 D xa σ ρ la) H locs) (j N : Nat) (hj : mArr j) (ht : mty j = 5) (hN : mlen j = N) (i : Nat) (hlt : i < N) {v : Nat} (hv : v < 2) (hdg : decode cc pc = .ok (.bastore, 1))
    (kk : ∀ (H1 : Heap) (locs1 : List Loc), xW D sa A s xa (mG G0 D xa (sup σ j i v) ρ la) H1 locs1 → W p l e R s m args below meth c H1 locs1 cells slots Q (F0 m (pc + 1) ls rest)) : W p l e R s m args below meth c H locs cells slots Q (F0 m pc ls (.int (nI v) :: .int (nI i) :: .ref (xa 20 j) :: rest)) := by
  have hG := mG_arr G0 D xa σ ρ la hj
  have hE := mG_ast G0 D xa σ ρ la hj i v
  unfold marr at hG
  rw [ht, hN] at hG
  rw [ht, hN] at hE
  refine x_zst hexec hb hW 20 j hG i rfl hlt ?_ (tv.ofNat hv).nar hdg (fun H1 locs1 h1 => kk H1 locs1 (by rw [← hE]; exact h1))
  have h1 := hj.1
  have h2 : mlen j ≤ 144 := by unfold mlen; split <;> omega
  omega
theorem m_ost (hexec : p.tables.exec = Jvm.exec) (hb : c.code = cc) (hW : xW D sa A s xa (mG G0 D xa σ ρ la) H locs) (i : Nat) (hlt : i < 8) {v : Nat} (hdg : decode cc pc = .ok (.iastore, 1))
    (kk : ∀ (H1 : Heap) (locs1 : List Loc), xW D sa A s xa (mG G0 D xa σ (rup ρ i v) la) H1 locs1 → W p l e R s m args below meth c H1 locs1 cells slots Q (F0 m (pc + 1) ls rest)) : W p l e R s m args below meth c H locs cells slots Q (F0 m pc ls (.int (nI v) :: .int (nI i) :: .ref (xa 20 19) :: rest)) :=
  x_ist hexec hb hW 20 19 (n := 8) (f := fun i => nI (ρ i)) rfl i rfl hlt (by omega) hdg (fun H1 locs1 h1 => kk H1 locs1 (by rw [← mG_ost]; exact h1))
end MR
/-- contracts of the reference's methods: the state behind it, what is said of the answer -/
def mCi (l : Launch) (y : MethodName) (ws : List Cond) (rm : Room) (D : xD) (sa : Nat → Nat) (xa : xA) (G0 : xG) (σ : Sg) (ρ : Nat → Nat) (la : Nat) (av : List Value) (P : Int32 → Sg → (Nat → Nat) → Nat → Prop) : Prop :=
  xCi l y ws rm D sa xa (mG G0 D xa σ ρ la) (.ref (xa 20 0) :: av) (fun r u => ∃ (σ1 : Sg) (ρ1 : Nat → Nat) (la1 : Nat), u = (xa, mG G0 D xa σ1 ρ1 la1) ∧ P r σ1 ρ1 la1) 0 0
section XJ
variable {p : Program} {l : Launch} {e : Env} {R : Room} {s : State} {m : MethodId} {args : Array Value} {below : List Frame} {meth : Method} {c : Code} {H : Heap} {locs : List Loc} {cells slots : Nat} {Q : State → Prop} {D : xD} {sa : Nat → Nat} {A : Nat → Prop} {xa : xA} {G : xG} {ls : Array Slot}
/-- a truth that comes by several ways -/
theorem x_joinW {g : JFrame} {P : Prop} {mpc : Nat} {rest : List Value} (h : ∀ (H : Heap) (locs : List Loc) (r : Int32), xW D sa A s xa G H locs → tv r P → W p l e R s m args below meth c H locs cells slots Q (F0 m mpc ls (.int r :: rest)))
    (k : (∀ (H : Heap) (locs : List Loc) (r : Int32), xW D sa A s xa G H locs → tv r P → W p l e R s m args below meth c H locs cells slots Q (F0 m mpc ls (.int r :: rest))) → W p l e R s m args below meth c H locs cells slots Q g) : W p l e R s m args below meth c H locs cells slots Q g := k h
end XJ
def mRd (l : Launch) (y : MethodName) (ws : List Cond) (rm : Room) (D : xD) (sa : Nat → Nat) (xa : xA) (G0 : xG) (σ : Sg) (ρ : Nat → Nat) (la : Nat) (av : List Value) (P : Int32 → Prop) : Prop :=
  xCi l y ws rm D sa xa (mG G0 D xa σ ρ la) (.ref (xa 20 0) :: av) (fun r u => u = (xa, mG G0 D xa σ ρ la) ∧ P r) 0 0
section XL
variable {p : Program} {l : Launch} {e : Env} {R : Room} {s : State} {m : MethodId} {args : Array Value} {below : List Frame} {meth : Method} {c : Code} {H : Heap} {locs : List Loc} {cells slots : Nat} {Q : State → Prop} {ls : Array Slot}
/-- a loop: a number that falls, an invariant -/
theorem x_loop {X : Type} {I : Nat → X → Heap → List Loc → Array Slot → Prop} {hd : Nat} (step : ∀ (n : Nat) (x : X) (H : Heap) (locs : List Loc) (ls : Array Slot), I n x H locs ls → (∀ (n' : Nat) (x' : X) (H' : Heap) (locs' : List Loc) (ls' : Array Slot), n' < n → I n' x' H' locs' ls' → W p l e R s m args below meth c H' locs' cells slots Q (F0 m hd ls' [])) → W p l e R s m args below meth c H locs cells slots Q (F0 m hd ls []))
    {n : Nat} {x : X} (h0 : I n x H locs ls) : W p l e R s m args below meth c H locs cells slots Q (F0 m hd ls []) := by
  have key : ∀ (k n : Nat), n < k → ∀ (x : X) (H : Heap) (locs : List Loc) (ls : Array Slot), I n x H locs ls → W p l e R s m args below meth c H locs cells slots Q (F0 m hd ls []) := by
    intro k
    induction k with
    | zero => intro n hn; omega
    | succ k ih => intro n hn x H locs ls hI; exact step n x H locs ls hI (fun n' x' H' locs' ls' hlt hI' => ih n' (by omega) x' H' locs' ls' hI')
  exact key (n + 1) n (by omega) x H locs ls h0
end XL
end
section
/-! WHAT THE CALLS ANSWER, in numbers -/
def xn (x : Int32) : Nat := x.toInt.toNat
theorem xn_nI {n : Nat} (h : n < 2 ^ 31) : xn (nI n) = n := by unfold xn; rw [nI_toInt h]; rfl
/-- which exception: 1, 2, 3 by the first of three conditions that fails; 0: none -/
def gk (P Q R : Prop) (k : Nat) : Prop := (¬ P ∧ k = 1) ∨ (P ∧ ¬ Q ∧ k = 2) ∨ (P ∧ Q ∧ R ∧ k = 0) ∨ (P ∧ Q ∧ ¬ R ∧ k = 3)
theorem gk.uniq {P Q R : Prop} {k k' : Nat} (h : gk P Q R k) (h' : gk P Q R k') : k = k' := by
  unfold gk at h h'
  grind
theorem gk.to {P Q R P' Q' R' : Prop} {k : Nat} (h : gk P Q R k) (hp : P ↔ P') (hq : P → (Q ↔ Q')) (hr : P → Q → (R ↔ R')) : gk P' Q' R' k := by
  unfold gk at h ⊢
  grind
def pP (σ : Sg) (x : Int32) : Prop := 0 ≤ x.toInt ∧ x.toInt < σ 5 0
def pT (σ : Sg) (x : Int32) : Prop := 0 ≤ x.toInt ∧ x.toInt < σ 12 0
def pL (x : Int32) : Prop := 0 ≤ x.toInt ∧ x.toInt < 5
def pS (σ : Sg) (t x : Int32) : Prop := pT σ t ∧ 0 ≤ x.toInt ∧ x.toInt < σ 11 (xn t)
def rg (x : Int32) (a b : Int) : Prop := a ≤ x.toInt ∧ x.toInt ≤ b
def oI (r : Option Nat) : Int := match r with
  | none => -1
  | some i => i
/-- somebody of the group is persecuted -/
def sPers (σ : Sg) (g a y : Nat) : Prop := ∃ k, k < σ 7 0 ∧ σ 6 (4 * k) = g ∧ σ 6 (4 * k + 1) = a ∧ σ 6 (4 * k + 2) ≤ y ∧ y ≤ σ 6 (4 * k + 3)
def hH (σ : Sg) (i h : Nat) : Prop := ∃ k, k < σ 4 i ∧ σ 3 (12 * i + k) = h
/-- the first k of a row whose find isn't none -/
def ff (g : Nat → Option Nat) : Nat → Nat → Option Nat
  | _, 0 => none
  | k, n + 1 => match g k with
    | some a => some a
    | none => ff g (k + 1) n
/-- the heir through d generations -/
def fh (σ : Sg) : Nat → Nat → Option Nat
  | 0, _ => none
  | d + 1, i => ff (fun k => if σ 2 (σ 3 (12 * i + k)) = 0 then some (σ 3 (12 * i + k)) else fh σ d (σ 3 (12 * i + k))) 0 (σ 4 i)
/-- bits told -/
def pcn (x : Nat) : Nat → Nat
  | 0 => 0
  | k + 1 => pcn x k + x / 2 ^ k % 2
def lk (σ : Sg) (i j : Nat) : Int := 10 * (pcn (σ 9 i &&& σ 9 j) 16 : Int) - 5 * (pcn (σ 9 i ^^^ σ 9 j) 16 : Int) - (if (σ 10 i : Int) - σ 10 j < 0 then -((σ 10 i : Int) - σ 10 j) else (σ 10 i : Int) - σ 10 j)
def lst (σ : Sg) (t : Nat) : Nat → Option Nat
  | 0 => none
  | k + 1 => match lst σ t k with
    | none => if k = t then none else some k
    | some b => if k ≠ t ∧ lk σ t b < lk σ t k then some k else some b
/-- the order of stations: the place of a new one, sought from the end -/
def ipl (yr o : Nat → Nat) (y : Nat) : Nat → Nat
  | 0 => 0
  | a + 1 => if y < yr (o a) then ipl yr o y a else a + 1
def insF (o : Nat → Nat) (n p : Nat) : Nat → Nat := fun q => if q < p then o q else if q = p then n else o (q - 1)
def od (yr : Nat → Nat) : Nat → Nat → Nat
  | 0 => fun _ => 0
  | n + 1 => insF (od yr n) n (ipl yr (od yr n) (yr n) n)
def yrs (σ : Sg) (i : Nat) : Nat → Nat := fun k => σ 16 (8 * i + k)
def ordr (σ : Sg) (i : Nat) : Nat → Nat := od (yrs σ i) (σ 11 i)
/-- by places of the order 'o' of a thing i -/
def lossO (σ : Sg) (i : Nat) (o : Nat → Nat) (q : Nat) : Prop := q ≠ 0 ∧ (3 ≤ σ 14 (8 * i + o q) ∨ (σ 14 (8 * i + o q) = 0 ∧ σ 17 (8 * i + o q) = 0 ∧ sPers σ (σ 1 (σ 13 (8 * i + o (q - 1)))) (σ 15 (8 * i + o q)) (σ 16 (8 * i + o q))))
def untO (σ : Sg) (i : Nat) (o : Nat → Nat) (n q : Nat) : Nat := if q + 1 < n then σ 16 (8 * i + o (q + 1)) else σ 0 0
def faiO (σ : Sg) (i : Nat) (o : Nat → Nat) (n q : Nat) : Prop := σ 14 (8 * i + o q) = 0 ∧ 0 < σ 8 (σ 15 (8 * i + o q)) ∧ (σ 8 (σ 15 (8 * i + o q)) : Int) ≤ (untO σ i o n q : Int) - σ 16 (8 * i + o q)
/-- the title passes at place q, t having it ahead -/
def brO (σ : Sg) (i : Nat) (o : Nat → Nat) (n q t : Nat) : Prop := σ 18 (8 * i + o q) = 1 ∨ (¬ lossO σ i o q ∧ (t = σ 13 (8 * i + o (q - 1)) ∨ faiO σ i o n q))
/-- 't has the title behind place q' -/
def ttl (σ : Sg) (i : Nat) (o : Nat → Nat) (n : Nat) : Nat → Nat → Prop
  | 0, t => t = σ 13 (8 * i + o 0)
  | q + 1, t => ∃ t0, ttl σ i o n q t0 ∧ ((brO σ i o n (q + 1) t0 ∧ t = σ 13 (8 * i + o (q + 1))) ∨ (¬ brO σ i o n (q + 1) t0 ∧ t = t0))
/-- who lives for somebody -/
def lif (σ : Sg) (t : Nat) : Option Nat := if σ 2 t = 0 then some t else fh σ 3 t
def hold (σ : Sg) (i : Nat) : Option Nat := if σ 11 i = 0 then none else some (σ 13 (8 * i + ordr σ i (σ 11 i - 1)))
def own (σ : Sg) (i : Nat) (r : Option Nat) : Prop := (σ 11 i = 0 ∧ r = none) ∨ (0 < σ 11 i ∧ ∃ t, ttl σ i (ordr σ i) (σ 11 i) (σ 11 i - 1) t ∧ r = lif σ t)
/-- 'c of the first n things are owned by x and held by others' -/
def cnt (σ : Sg) (x : Nat) : Nat → Nat → Prop
  | 0, c => c = 0
  | i + 1, c => ∃ c0 r, cnt σ x i c0 ∧ own σ i r ∧ ((r = some x ∧ hold σ i ≠ some x ∧ c = c0 + 1) ∨ (¬ (r = some x ∧ hold σ i ≠ some x) ∧ c = c0))
def lossT (σ : Sg) (i s : Nat) : Prop := ∃ q, q < σ 11 i ∧ ordr σ i q = s ∧ lossO σ i (ordr σ i) q
theorem ttl.uniq {σ : Sg} {i : Nat} {o : Nat → Nat} {n : Nat} : ∀ {q t t' : Nat}, ttl σ i o n q t → ttl σ i o n q t' → t = t'
  | 0, t, t', h, h' => h.trans h'.symm
  | q + 1, t, t', ⟨t0, h0, h1⟩, ⟨t0', h0', h1'⟩ => by
    cases ttl.uniq h0 h0'
    rcases h1 with ⟨a, b⟩ | ⟨a, b⟩ <;> rcases h1' with ⟨a', b'⟩ | ⟨a', b'⟩
    · exact b.trans b'.symm
    · exact absurd a a'
    · exact absurd a' a
    · exact b.trans b'.symm
theorem own.uniq {σ : Sg} {i : Nat} {r r' : Option Nat} (h : own σ i r) (h' : own σ i r') : r = r' := by
  rcases h with ⟨a, b⟩ | ⟨a, t, b, d⟩ <;> rcases h' with ⟨a', b'⟩ | ⟨a', t', b', d'⟩
  · rw [b, b']
  · omega
  · omega
  · cases ttl.uniq b b'
    rw [d, d']
theorem cnt.uniq {σ : Sg} {x : Nat} : ∀ {n k k' : Nat}, cnt σ x n k → cnt σ x n k' → k = k'
  | 0, k, k', h, h' => h.trans h'.symm
  | n + 1, k, k', ⟨c0, r, h0, h1, h2⟩, ⟨c0', r', h0', h1', h2'⟩ => by
    cases cnt.uniq h0 h0'
    cases own.uniq h1 h1'
    rcases h2 with ⟨a, b, d⟩ | ⟨a, d⟩ <;> rcases h2' with ⟨a', b', d'⟩ | ⟨a', d'⟩
    · rw [d, d']
    · exact absurd ⟨a, b⟩ a'
    · exact absurd ⟨a', b'⟩ a
    · rw [d, d']
/-- what every state of a run keeps -/
def Gd (σ : Sg) : Prop := (∀ j i, σ j i < 65536) ∧ (σ 5 0 ≤ 12 ∧ σ 7 0 ≤ 20 ∧ σ 12 0 ≤ 10 ∧ 1900 ≤ σ 0 0 ∧ σ 0 0 ≤ 2100) ∧
  (∀ i, i < σ 5 0 → σ 1 i < 4 ∧ σ 2 i < 2 ∧ σ 4 i < 12 ∧ (∀ k, k < σ 4 i → σ 3 (12 * i + k) < σ 5 0 ∧ σ 3 (12 * i + k) ≠ i) ∧ (∀ k k', k < σ 4 i → k' < σ 4 i → σ 3 (12 * i + k) = σ 3 (12 * i + k') → k = k')) ∧
  (∀ i, σ 5 0 ≤ i → σ 2 i = 0 ∧ σ 4 i = 0) ∧
  (∀ i, i < σ 12 0 → σ 10 i ≤ 1000 ∧ σ 11 i ≤ 8 ∧ ∀ k, k < σ 11 i → σ 13 (8 * i + k) < σ 5 0 ∧ σ 14 (8 * i + k) < 6 ∧ σ 15 (8 * i + k) < 5 ∧ 1900 ≤ σ 16 (8 * i + k) ∧ σ 16 (8 * i + k) ≤ σ 0 0 ∧ σ 17 (8 * i + k) < 2 ∧ σ 18 (8 * i + k) < 2) ∧
  (∀ i, σ 12 0 ≤ i → σ 11 i = 0) ∧ (∀ i k, σ 11 i ≤ k → k < 8 → σ 17 (8 * i + k) = 0 ∧ σ 18 (8 * i + k) = 0) ∧ (∀ i, σ 8 i ≤ 60) ∧ (∀ i, σ 14 i < 6)
end
section
/-! WHAT THE CALLS LEAVE (k: the code) -/
def t_person (σ : Sg) (x : Int32) (k : Nat) : Sg := if k = 0 then sup (sup σ 1 (σ 5 0) (xn x)) 5 0 (σ 5 0 + 1) else σ
def t_die (σ : Sg) (x : Int32) (k : Nat) : Sg := if k = 0 then sup σ 2 (xn x) 1 else σ
def t_heir (σ : Sg) (x y : Int32) (k : Nat) : Sg := if k = 0 then sup (sup σ 3 (12 * xn x + σ 4 (xn x)) (xn y)) 4 (xn x) (σ 4 (xn x) + 1) else σ
def t_persecution (σ : Sg) (g a f t : Int32) (k : Nat) : Sg := if k = 0 then sup (sup (sup (sup (sup σ 6 (4 * σ 7 0) (xn g)) 6 (4 * σ 7 0 + 1) (xn a)) 6 (4 * σ 7 0 + 2) (xn f)) 6 (4 * σ 7 0 + 3) (xn t)) 7 0 (σ 7 0 + 1) else σ
def t_faith (σ : Sg) (a y : Int32) (k : Nat) : Sg := if k = 0 then sup σ 8 (xn a) (xn y) else σ
def t_now (σ : Sg) (y : Int32) (k : Nat) : Sg := if k = 0 then sup σ 0 0 (xn y) else σ
def t_thing (σ : Sg) (mk sz : Int32) (k : Nat) : Sg := if k = 0 then sup (sup (sup σ 9 (σ 12 0) (xn mk)) 10 (σ 12 0) (xn sz)) 12 0 (σ 12 0 + 1) else σ
def mkv (m b is : Nat) : Nat := if is = 0 then m &&& (65535 ^^^ 2 ^ b) else m ||| 2 ^ b
def t_mark (σ : Sg) (t b : Int32) (is k : Nat) : Sg := if k = 0 then sup σ 9 (xn t) (mkv (σ 9 (xn t)) (xn b) is) else σ
def t_station (σ : Sg) (t p kd a y : Int32) (k : Nat) : Sg := if k = 0 then sup (sup (sup (sup (sup σ 13 (8 * xn t + σ 11 (xn t)) (xn p)) 14 (8 * xn t + σ 11 (xn t)) (xn kd)) 15 (8 * xn t + σ 11 (xn t)) (xn a)) 16 (8 * xn t + σ 11 (xn t)) (xn y)) 11 (xn t) (σ 11 (xn t) + 1) else σ
def t_rebut (σ : Sg) (t x : Int32) (is k : Nat) : Sg := if k = 0 then sup σ 17 (8 * xn t + xn x) is else σ
def t_settle (σ : Sg) (t x : Int32) (is k : Nat) : Sg := if k = 0 then sup σ 18 (8 * xn t + xn x) is else σ
theorem gk.zero {P Q R : Prop} (h : gk P Q R 0) : P ∧ Q ∧ R := by unfold gk at h; grind
theorem gk.mk0 {P Q R : Prop} (hp : P) (hq : Q) (hr : R) : gk P Q R 0 := Or.inr (Or.inr (Or.inl ⟨hp, hq, hr, rfl⟩))
theorem rg_in {x : Int32} {a b : Nat} (ha : a < 2 ^ 31) (hb : b < 2 ^ 31) : ((nI a).toInt ≤ x.toInt ∧ x.toInt ≤ (nI b).toInt) ↔ rg x a b := by unfold rg; rw [nI_toInt ha, nI_toInt hb]
theorem Gd.hm {σ : Sg} (hg : Gd σ) : ∀ i, σ 4 i < 12 := fun i => by
  by_cases h : i < σ 5 0
  · exact (hg.2.2.1 i h).2.2.1
  · rw [(hg.2.2.2.1 i (by omega)).2]; omega
theorem Gd.hs8 {σ : Sg} (hg : Gd σ) : ∀ i, σ 11 i ≤ 8 := fun i => by
  by_cases h : i < σ 12 0
  · exact (hg.2.2.2.2.1 i h).2.1
  · rw [hg.2.2.2.2.2.1 i (by omega)]; omega
end
section
/-! BITS, small integers, rows of finds -/
theorem nI_and (a b : Nat) : nI a &&& nI b = nI (a &&& b) := by
  apply Int32.toBitVec_inj.mp
  rw [Int32.toBitVec_and]
  show BitVec.ofNat 32 a &&& BitVec.ofNat 32 b = BitVec.ofNat 32 (a &&& b)
  simp
theorem nI_or (a b : Nat) : nI a ||| nI b = nI (a ||| b) := by
  apply Int32.toBitVec_inj.mp
  rw [Int32.toBitVec_or]
  show BitVec.ofNat 32 a ||| BitVec.ofNat 32 b = BitVec.ofNat 32 (a ||| b)
  simp
theorem nI_xor (a b : Nat) : nI a ^^^ nI b = nI (a ^^^ b) := by
  apply Int32.toBitVec_inj.mp
  rw [Int32.toBitVec_xor]
  show BitVec.ofNat 32 a ^^^ BitVec.ofNat 32 b = BitVec.ofNat 32 (a ^^^ b)
  simp
theorem bt_sm {b : Nat} (h : b < 32) : ((nI b &&& 31).toBitVec.smod 32).toNat = b := by
  have key : ∀ b : Fin 32, ((nI b.1 &&& 31).toBitVec.smod 32).toNat = b.1 := by decide +kernel
  exact key ⟨b, h⟩
theorem bt_shr {m b : Nat} (hm : m < 2 ^ 31) (hb : b < 32) : nI m >>> (nI b &&& 31) = nI (m / 2 ^ b) := pk_shrN hm _ b (bt_sm hb)
theorem bt_shl {b : Nat} (hb : b < 31) : nI 1 <<< (nI b &&& 31) = nI (2 ^ b) := by
  have h1 : 2 ^ b < 2 ^ 31 := Nat.pow_lt_pow_right (by omega) hb
  rw [pk_shlN _ b (bt_sm (by omega)) (by omega), Nat.one_mul]
theorem bt_and1 (n : Nat) : nI n &&& nI 1 = nI (n % 2) := by rw [nI_and, Nat.and_one_is_mod]
theorem bt_m1 : (-1 : Int32) = nI 4294967295 := by decide +kernel
theorem bt_clr {m b : Nat} (hm : m < 65536) : m &&& (2 ^ b ^^^ 4294967295) = m &&& (65535 ^^^ 2 ^ b) := by
  apply Nat.eq_of_testBit_eq
  intro i
  rw [Nat.testBit_and, Nat.testBit_and, Nat.testBit_xor, Nat.testBit_xor]
  by_cases h : i < 16
  · have key : ∀ i : Fin 16, (4294967295).testBit i.1 = (65535).testBit i.1 := by decide +kernel
    rw [key ⟨i, h⟩, Bool.xor_comm]
  · rw [Nat.testBit_lt_two_pow (x := m) (i := i) (Nat.lt_of_lt_of_le hm (by rw [show 65536 = 2 ^ 16 by rfl]; exact Nat.pow_le_pow_right (by omega) (by omega)))]
    rfl
theorem bt_test {m b : Nat} : m &&& 2 ^ b = 0 ↔ ¬ m / 2 ^ b % 2 = 1 := by
  have h0 : m.testBit b = decide (m / 2 ^ b % 2 = 1) := Nat.testBit_eq_decide_div_mod_eq
  constructor
  · intro h h1
    have h2 : (m &&& 2 ^ b).testBit b = false := by rw [h]; exact Nat.zero_testBit b
    rw [Nat.testBit_and, Nat.testBit_two_pow_self, h0] at h2
    simp [h1] at h2
  · intro h
    apply Nat.eq_of_testBit_eq
    intro i
    rw [Nat.testBit_and, Nat.testBit_two_pow, Nat.zero_testBit]
    by_cases hi : b = i
    · subst hi
      rw [h0]
      simp [h]
    · simp [hi]
theorem mkv_lt {m b is : Nat} (hm : m < 65536) (hb : b < 16) : mkv m b is < 65536 := by
  unfold mkv
  split
  · exact Nat.lt_of_le_of_lt Nat.and_le_left hm
  · have h1 : 2 ^ b < 2 ^ 16 := Nat.pow_lt_pow_right (by omega) hb
    exact Nat.or_lt_two_pow (n := 16) hm h1
theorem x_subI {x y : Int32} (h1 : -2147483648 ≤ x.toInt - y.toInt) (h2 : x.toInt - y.toInt < 2147483648) : (x - y).toInt = x.toInt - y.toInt := by
  rw [Int32.toInt_sub, Int.bmod_def]
  split <;> omega
theorem x_negI {x : Int32} (h1 : -2147483648 < x.toInt) : (-x).toInt = -x.toInt := by
  have hx := x.toInt_lt
  rw [Int32.toInt_neg, Int.bmod_def]
  split <;> omega
theorem pcn_le (x : Nat) : ∀ k, pcn x k ≤ k
  | 0 => Nat.le_refl _
  | k + 1 => by
    have h := pcn_le x k
    show pcn x k + x / 2 ^ k % 2 ≤ k + 1
    omega
theorem x_dec {a : Nat} (h : 0 < a) : nI a + Int32.ofInt (-1) = nI (a - 1) := by
  obtain ⟨b, rfl⟩ : ∃ b, a = b + 1 := ⟨a - 1, by omega⟩
  rw [show b + 1 - 1 = b by omega]
  exact pk_m1 b
/-- an answer that is a number or -1 -/
def oi (r : Option Nat) : Int32 := match r with
  | none => -1
  | some i => nI i
theorem oi_m1 {r : Option Nat} (h : ∀ i, r = some i → i < 2 ^ 31) : oi r = -1 ↔ r = none := by
  cases r with
  | none => exact ⟨fun _ => rfl, fun _ => rfl⟩
  | some i =>
    refine ⟨fun h1 => ?_, fun h1 => by cases h1⟩
    have h2 := congrArg Int32.toInt h1
    rw [show oi (some i) = nI i from rfl, nI_toInt (h i rfl), x_tm1] at h2
    omega
theorem oi_toInt {r : Option Nat} (h : ∀ i, r = some i → i < 2 ^ 31) : (oi r).toInt = oI r := by
  cases r with
  | none => exact x_tm1
  | some i => exact nI_toInt (h i rfl)
/-- the finds of heirs -/
def hg1 (σ : Sg) (d i : Nat) : Nat → Option Nat := fun k => if σ 2 (σ 3 (12 * i + k)) = 0 then some (σ 3 (12 * i + k)) else fh σ d (σ 3 (12 * i + k))
theorem fh_eq (σ : Sg) (d i : Nat) : fh σ (d + 1) i = ff (hg1 σ d i) 0 (σ 4 i - 0) := rfl
theorem ff_end {f : Option Nat} {g : Nat → Option Nat} {k n : Nat} (h : f = ff g k (n - k)) (hk : n ≤ k) : f = none := by
  rw [h, show n - k = 0 by omega]; rfl
theorem ff_some {f : Option Nat} {g : Nat → Option Nat} {k n a : Nat} (h : f = ff g k (n - k)) (hk : k < n) (hg : g k = some a) : f = some a := by
  obtain ⟨m, hm⟩ : ∃ m, n - k = m + 1 := ⟨n - k - 1, by omega⟩
  rw [h, hm, ff, hg]
theorem ff_none {f : Option Nat} {g : Nat → Option Nat} {k n : Nat} (h : f = ff g k (n - k)) (hk : k < n) (hg : g k = none) : f = ff g (k + 1) (n - (k + 1)) := by
  obtain ⟨m, hm⟩ : ∃ m, n - k = m + 1 := ⟨n - k - 1, by omega⟩
  rw [h, hm, ff, hg, show n - (k + 1) = m by omega]
theorem ff_lt {g : Nat → Option Nat} {B : Nat} : ∀ (n k a : Nat), (∀ j b, k ≤ j → j < k + n → g j = some b → b < B) → ff g k n = some a → a < B
  | 0, _, _, _, h => by cases h
  | n + 1, k, a, hb, h => by
    rw [ff] at h
    cases hg : g k with
    | some b =>
      rw [hg] at h
      cases h
      exact hb k a (by omega) (by omega) hg
    | none =>
      rw [hg] at h
      exact ff_lt n (k + 1) a (fun j b h1 h2 => hb j b (by omega) (by omega)) h
theorem Gd.heir {σ : Sg} (hg : Gd σ) {i k : Nat} (hi : i < σ 5 0) (hk : k < σ 4 i) : σ 3 (12 * i + k) < σ 5 0 := ((hg.2.2.1 i hi).2.2.2.1 k hk).1
theorem fh_lt {σ : Sg} (hg : Gd σ) : ∀ (d i a : Nat), i < σ 5 0 → fh σ d i = some a → a < σ 5 0
  | 0, _, _, _, h => by cases h
  | d + 1, i, a, hi, h => by
    refine ff_lt (σ 4 i) 0 a (fun j b _ h2 h3 => ?_) h
    have hh := hg.heir hi (k := j) (by omega)
    by_cases h0 : σ 2 (σ 3 (12 * i + j)) = 0
    · rw [if_pos h0] at h3; cases h3; exact hh
    · rw [if_neg h0] at h3; exact fh_lt hg d _ b hh h3
theorem lst_lt {σ : Sg} {t : Nat} : ∀ {n b : Nat}, lst σ t n = some b → b < n
  | 0, b, h => by cases h
  | k + 1, b, h => by
    rw [lst] at h
    cases hl : lst σ t k with
    | none =>
      rw [hl] at h
      dsimp only at h
      split at h
      · cases h
      · cases h; omega
    | some b' =>
      rw [hl] at h
      dsimp only at h
      have h1 := lst_lt hl
      split at h
      · cases h; omega
      · cases h; omega
/-- the order: a place of each of the first n -/
theorem ipl_le (yr o : Nat → Nat) (y : Nat) : ∀ a, ipl yr o y a ≤ a
  | 0 => Nat.le_refl _
  | a + 1 => by
    rw [ipl]
    split
    · have := ipl_le yr o y a; omega
    · omega
theorem od_lt {yr : Nat → Nat} : ∀ {n q : Nat}, q < n → od yr n q < n
  | 0, q, h => by omega
  | n + 1, q, h => by
    have hp := ipl_le yr (od yr n) (yr n) n
    rw [od]
    unfold insF
    split
    · have := od_lt (yr := yr) (n := n) (q := q) (by omega); omega
    · split
      · omega
      · have := od_lt (yr := yr) (n := n) (q := q - 1) (by omega); omega
theorem ordr_lt {σ : Sg} {i q : Nat} (h : q < σ 11 i) : ordr σ i q < σ 11 i := od_lt h
end
section
set_option maxHeartbeats 4000000 in
set_option maxRecDepth 100000 in
theorem c_X5_in (l : Launch) (D : xD) (sa : Nat → Nat) (xa : xA) (G : xG) (v a b : Int32) : xCi l yX5_in wsX5_in ({ frames := 10, cells := 0, slots := 0, locals := 200 } : Room) D sa xa G [.int v, .int a, .int b] (fun r u => u = (xa, G) ∧ tv r (a.toInt ≤ v.toInt ∧ v.toInt ≤ b.toInt)) 0 0 := by
  intro sz
  refine Met.ofW (cc := cX5_in) (maxL := 3) (ret := (some .boolean)) (by decide +kernel) rfl ?_
  intro p e s m args below meth c s₁ B hml hv
  obtain ⟨rfl, hsz, hv2⟩ := hv
  subst hsz
  have hx := B.exec
  have hb := B.bytes
  have hr := B.returns
  have hts := atoms_spec (ws := wsX5_in) B.pre
  have hown : s.vm.findClass RX5 = some m.cls := findClass_of_methodNamed B.named
  have hlocks := B.notSynchronized
  have hW := xW.start (s := s) ⟨rfl, hv2⟩
  clear hv2
  generalize xAw xa (G) s.heap.size = A at hW ⊢
  have hl := lv_entry ([.int (v), .int (a), .int (b)]) (n := 3) (Nat.le_of_ble_eq_true rfl)
  rw [lg_entry_eq]
  generalize (lg_sl ([.int (v), .int (a), .int (b)]) ++ List.replicate (3 - (lg_sl ([.int (v), .int (a), .int (b)])).length) Slot.unset).toArray = ls at hl ⊢
  have hl : lv_has ls 3 [(0, .int (v)), (1, .int (a)), (2, .int (b))] := hl
  refine lv_iload_n hx hb dX5_in_0 rfl (lv_at hl 0 rfl) ?_
  refine lv_iload_n hx hb dX5_in_1 rfl (lv_at hl 1 rfl) ?_
  refine lv_icmp_lt (tgt := 14) hx hb dX5_in_2 (by decide) (fun c_2 => ?_) (fun c_2 => ?_)
  · -- lt taken
    have c_2 := Int32.lt_iff_toInt_lt.mp c_2
    refine lv_iconst (v := nI (0)) hx hb dX5_in_14 (by decide +kernel) ?_
    exact xe_i hx hb hr rfl hlocks hW ⟨rfl, tv.zero (by first | omega | grind)⟩ (Nat.le_refl _) (Nat.le_refl _) dX5_in_15
  · -- lt not
    have c_2 : ¬ ((v).toInt < (a).toInt) := fun h => c_2 (Int32.lt_iff_toInt_lt.mpr h)
    refine lv_iload_n hx hb dX5_in_5 rfl (lv_at hl 0 rfl) ?_
    refine lv_iload_n hx hb dX5_in_6 rfl (lv_at hl 2 rfl) ?_
    refine lv_icmp_gt (tgt := 14) hx hb dX5_in_7 (by decide) (fun c_7 => ?_) (fun c_7 => ?_)
    · -- gt taken
      have c_7 := Int32.lt_iff_toInt_lt.mp c_7
      refine lv_iconst (v := nI (0)) hx hb dX5_in_14 (by decide +kernel) ?_
      exact xe_i hx hb hr rfl hlocks hW ⟨rfl, tv.zero (by first | omega | grind)⟩ (Nat.le_refl _) (Nat.le_refl _) dX5_in_15
    · -- gt not
      have c_7 : ¬ ((b).toInt < (v).toInt) := fun h => c_7 (Int32.lt_iff_toInt_lt.mpr h)
      refine lv_iconst (v := nI (1)) hx hb dX5_in_10 (by decide +kernel) ?_
      refine lv_goto (tgt := 15) hx hb dX5_in_11 (by decide) ?_
      exact xe_i hx hb hr rfl hlocks hW ⟨rfl, tv.one (by first | omega | grind)⟩ (Nat.le_refl _) (Nat.le_refl _) dX5_in_15

set_option maxHeartbeats 4000000 in
set_option maxRecDepth 100000 in
theorem c_X5_isLand (l : Launch) (D : xD) (sa : Nat → Nat) (xa : xA) (G : xG) (v : Int32) : xCi l yX5_isLand wsX5_isLand ({ frames := 12, cells := 0, slots := 0, locals := 300 } : Room) D sa xa G [.int v] (fun r u => u = (xa, G) ∧ tv r (pL v)) 0 0 := by
  intro sz
  refine Met.ofW (cc := cX5_isLand) (maxL := 1) (ret := (some .boolean)) (by decide +kernel) rfl ?_
  intro p e s m args below meth c s₁ B hml hv
  obtain ⟨rfl, hsz, hv2⟩ := hv
  subst hsz
  have hx := B.exec
  have hb := B.bytes
  have hr := B.returns
  have hts := atoms_spec (ws := wsX5_isLand) B.pre
  have hown : s.vm.findClass RX5 = some m.cls := findClass_of_methodNamed B.named
  have hlocks := B.notSynchronized
  have hW := xW.start (s := s) ⟨rfl, hv2⟩
  clear hv2
  generalize xAw xa (G) s.heap.size = A at hW ⊢
  have hl := lv_entry ([.int (v)]) (n := 1) (Nat.le_of_ble_eq_true rfl)
  rw [lg_entry_eq]
  generalize (lg_sl ([.int (v)]) ++ List.replicate (1 - (lg_sl ([.int (v)])).length) Slot.unset).toArray = ls at hl ⊢
  have hl : lv_has ls 1 [(0, .int (v))] := hl
  refine lv_iload_n hx hb dX5_isLand_0 rfl (lv_at hl 0 rfl) ?_
  refine lv_iconst (v := nI (0)) hx hb dX5_isLand_1 (by decide +kernel) ?_
  refine lv_iconst (v := nI (4)) hx hb dX5_isLand_2 (by decide +kernel) ?_
  refine xs_i (As := [.int (v), .int (nI (0)), .int (nI (4))]) (rest := []) ⟨hx, hb, hml, hown, hts⟩ (c_X5_in l D sa xa G (v) (nI (0)) (nI (4))) (va_cwS 3 hts gX5_isLand_X5_in rfl rfl rfl (by decide +kernel) ⟨Nat.le_of_ble_eq_true rfl, Nat.le_of_ble_eq_true rfl⟩) hW rfl rfl hl.1 (Nat.le_of_ble_eq_true rfl) dX5_isLand_3 ⟨Nat.le_of_ble_eq_true rfl, Nat.le_of_ble_eq_true rfl⟩ (fun r_3 xa1 G1 H locs hp hW => ?_)
  obtain ⟨hu, hr_3⟩ := hp
  cases hu
  exact xe_i hx hb hr hr_3.nar hlocks hW ⟨rfl, hr_3.to (by rw [nI_toInt (by omega), nI_toInt (by omega)]; unfold pL; omega)⟩ (Nat.le_refl _) (Nat.le_refl _) dX5_isLand_6

set_option maxHeartbeats 4000000 in
set_option maxRecDepth 100000 in
theorem c_X5_isPerson (l : Launch) (D : xD) (sa : Nat → Nat) (xa : xA) (G0 : xG) (σ : Sg) (ρ : Nat → Nat) (la : Nat) (hB : ∀ j i, σ j i < 65536) (v : Int32) : mRd l yX5_isPerson wsX5_isPerson ({ frames := 12, cells := 0, slots := 0, locals := 300 } : Room) D sa xa G0 σ ρ la [.int v] (fun r => tv r (pP σ v)) := by
  intro sz
  refine Met.ofW (cc := cX5_isPerson) (maxL := 2) (ret := (some .boolean)) (by decide +kernel) rfl ?_
  intro p e s m args below meth c s₁ B hml hv
  obtain ⟨rfl, hsz, hv2⟩ := hv
  subst hsz
  have hx := B.exec
  have hb := B.bytes
  have hr := B.returns
  have hts := atoms_spec (ws := wsX5_isPerson) B.pre
  have hown : s.vm.findClass RX5 = some m.cls := findClass_of_methodNamed B.named
  have hlocks := B.notSynchronized
  have hin5 : ∀ w ∈ wsX50, w ∈ wsX5_isPerson := by decide +kernel
  have hW := xW.start (s := s) ⟨rfl, hv2⟩
  clear hv2
  generalize xAw xa (mG G0 D xa σ ρ la) s.heap.size = A at hW ⊢
  have hl := lv_entry ([.ref (xa 20 0), .int (v)]) (n := 2) (Nat.le_of_ble_eq_true rfl)
  rw [lg_entry_eq]
  generalize (lg_sl ([.ref (xa 20 0), .int (v)]) ++ List.replicate (2 - (lg_sl ([.ref (xa 20 0), .int (v)])).length) Slot.unset).toArray = ls at hl ⊢
  have hl : lv_has ls 2 [(0, .ref (xa 20 0)), (1, .int (v))] := hl
  refine lv_iload_n hx hb dX5_isPerson_0 rfl (lv_at hl 1 rfl) ?_
  refine lv_iconst (v := nI (0)) hx hb dX5_isPerson_1 (by decide +kernel) ?_
  refine lv_aload_n hx hb dX5_isPerson_2 rfl (lv_at hl 0 rfl) ?_
  refine m_get hx hb hts hin5 hown hW 5 (by decide) rfl (hts (.fieldLink RX5 66 "RestitutoryModel" "people" "I") (by decide +kernel)) (v := .int (nI (σ 5 0))) rfl dX5_isPerson_3 ?_
  have b_3 := hB 5 0
  refine lv_iconst (v := nI (1)) hx hb dX5_isPerson_6 (by decide +kernel) ?_
  refine lv_isub hx hb dX5_isPerson_7 ?_
  refine xs_i (As := [.int (v), .int (nI (0)), .int ((nI (σ 5 0)) - (nI (1)))]) (rest := []) ⟨hx, hb, hml, hown, hts⟩ (c_X5_in l D sa xa (mG G0 D xa σ ρ la) (v) (nI (0)) ((nI (σ 5 0)) - (nI (1)))) (va_cwS 3 hts gX5_isPerson_X5_in rfl rfl rfl (by decide +kernel) ⟨Nat.le_of_ble_eq_true rfl, Nat.le_of_ble_eq_true rfl⟩) hW rfl rfl hl.1 (Nat.le_of_ble_eq_true rfl) dX5_isPerson_8 ⟨Nat.le_of_ble_eq_true rfl, Nat.le_of_ble_eq_true rfl⟩ (fun r_8 xa1 G1 H locs hp hW => ?_)
  obtain ⟨hu, hr_8⟩ := hp
  cases hu
  exact xe_i hx hb hr hr_8.nar hlocks hW ⟨rfl, hr_8.to (by rw [nI_toInt (by omega)]; have h1 : (nI (σ 5 0) - nI 1).toInt = (σ 5 0 : Int) - 1 := pk_sub_toInt (by omega) (by omega); rw [h1]; unfold pP; omega)⟩ (Nat.le_refl _) (Nat.le_refl _) dX5_isPerson_11

set_option maxHeartbeats 4000000 in
set_option maxRecDepth 100000 in
theorem c_X5_isThing (l : Launch) (D : xD) (sa : Nat → Nat) (xa : xA) (G0 : xG) (σ : Sg) (ρ : Nat → Nat) (la : Nat) (hB : ∀ j i, σ j i < 65536) (v : Int32) : mRd l yX5_isThing wsX5_isThing ({ frames := 12, cells := 0, slots := 0, locals := 300 } : Room) D sa xa G0 σ ρ la [.int v] (fun r => tv r (pT σ v)) := by
  intro sz
  refine Met.ofW (cc := cX5_isThing) (maxL := 2) (ret := (some .boolean)) (by decide +kernel) rfl ?_
  intro p e s m args below meth c s₁ B hml hv
  obtain ⟨rfl, hsz, hv2⟩ := hv
  subst hsz
  have hx := B.exec
  have hb := B.bytes
  have hr := B.returns
  have hts := atoms_spec (ws := wsX5_isThing) B.pre
  have hown : s.vm.findClass RX5 = some m.cls := findClass_of_methodNamed B.named
  have hlocks := B.notSynchronized
  have hin5 : ∀ w ∈ wsX50, w ∈ wsX5_isThing := by decide +kernel
  have hW := xW.start (s := s) ⟨rfl, hv2⟩
  clear hv2
  generalize xAw xa (mG G0 D xa σ ρ la) s.heap.size = A at hW ⊢
  have hl := lv_entry ([.ref (xa 20 0), .int (v)]) (n := 2) (Nat.le_of_ble_eq_true rfl)
  rw [lg_entry_eq]
  generalize (lg_sl ([.ref (xa 20 0), .int (v)]) ++ List.replicate (2 - (lg_sl ([.ref (xa 20 0), .int (v)])).length) Slot.unset).toArray = ls at hl ⊢
  have hl : lv_has ls 2 [(0, .ref (xa 20 0)), (1, .int (v))] := hl
  refine lv_iload_n hx hb dX5_isThing_0 rfl (lv_at hl 1 rfl) ?_
  refine lv_iconst (v := nI (0)) hx hb dX5_isThing_1 (by decide +kernel) ?_
  refine lv_aload_n hx hb dX5_isThing_2 rfl (lv_at hl 0 rfl) ?_
  refine m_get hx hb hts hin5 hown hW 12 (by decide) rfl (hts (.fieldLink RX5 73 "RestitutoryModel" "things" "I") (by decide +kernel)) (v := .int (nI (σ 12 0))) rfl dX5_isThing_3 ?_
  have b_3 := hB 12 0
  refine lv_iconst (v := nI (1)) hx hb dX5_isThing_6 (by decide +kernel) ?_
  refine lv_isub hx hb dX5_isThing_7 ?_
  refine xs_i (As := [.int (v), .int (nI (0)), .int ((nI (σ 12 0)) - (nI (1)))]) (rest := []) ⟨hx, hb, hml, hown, hts⟩ (c_X5_in l D sa xa (mG G0 D xa σ ρ la) (v) (nI (0)) ((nI (σ 12 0)) - (nI (1)))) (va_cwS 3 hts gX5_isThing_X5_in rfl rfl rfl (by decide +kernel) ⟨Nat.le_of_ble_eq_true rfl, Nat.le_of_ble_eq_true rfl⟩) hW rfl rfl hl.1 (Nat.le_of_ble_eq_true rfl) dX5_isThing_8 ⟨Nat.le_of_ble_eq_true rfl, Nat.le_of_ble_eq_true rfl⟩ (fun r_8 xa1 G1 H locs hp hW => ?_)
  obtain ⟨hu, hr_8⟩ := hp
  cases hu
  exact xe_i hx hb hr hr_8.nar hlocks hW ⟨rfl, hr_8.to (by rw [nI_toInt (by omega)]; have h1 : (nI (σ 12 0) - nI 1).toInt = (σ 12 0 : Int) - 1 := pk_sub_toInt (by omega) (by omega); rw [h1]; unfold pT; omega)⟩ (Nat.le_refl _) (Nat.le_refl _) dX5_isThing_11

set_option maxHeartbeats 4000000 in
set_option maxRecDepth 100000 in
theorem c_X5_isStation (l : Launch) (D : xD) (sa : Nat → Nat) (xa : xA) (G0 : xG) (σ : Sg) (ρ : Nat → Nat) (la : Nat) (hB : ∀ j i, σ j i < 65536) (hT0 : σ 12 0 ≤ 10) (t x : Int32) : mRd l yX5_isStation wsX5_isStation ({ frames := 14, cells := 0, slots := 0, locals := 400 } : Room) D sa xa G0 σ ρ la [.int t, .int x] (fun r => tv r (pS σ t x)) := by
  intro sz
  refine Met.ofW (cc := cX5_isStation) (maxL := 3) (ret := (some .boolean)) (by decide +kernel) rfl ?_
  intro p e s m args below meth c s₁ B hml hv
  obtain ⟨rfl, hsz, hv2⟩ := hv
  subst hsz
  have hx := B.exec
  have hb := B.bytes
  have hr := B.returns
  have hts := atoms_spec (ws := wsX5_isStation) B.pre
  have hown : s.vm.findClass RX5 = some m.cls := findClass_of_methodNamed B.named
  have hlocks := B.notSynchronized
  have hin5 : ∀ w ∈ wsX50, w ∈ wsX5_isStation := by decide +kernel
  have hW := xW.start (s := s) ⟨rfl, hv2⟩
  clear hv2
  generalize xAw xa (mG G0 D xa σ ρ la) s.heap.size = A at hW ⊢
  have hl := lv_entry ([.ref (xa 20 0), .int (t), .int (x)]) (n := 3) (Nat.le_of_ble_eq_true rfl)
  rw [lg_entry_eq]
  generalize (lg_sl ([.ref (xa 20 0), .int (t), .int (x)]) ++ List.replicate (3 - (lg_sl ([.ref (xa 20 0), .int (t), .int (x)])).length) Slot.unset).toArray = ls at hl ⊢
  have hl : lv_has ls 3 [(0, .ref (xa 20 0)), (1, .int (t)), (2, .int (x))] := hl
  refine lv_aload_n hx hb dX5_isStation_0 rfl (lv_at hl 0 rfl) ?_
  refine lv_iload_n hx hb dX5_isStation_1 rfl (lv_at hl 1 rfl) ?_
  refine xv_i (As := [.int (t)]) (rest := []) ⟨hx, hb, hml, hown, hts⟩ (c_X5_isThing l D sa xa G0 σ ρ la hB t) (cwV 1 hts gX5_isStation_X5_isThing rfl rfl rfl (by decide +kernel) ⟨Nat.le_of_ble_eq_true rfl, Nat.le_of_ble_eq_true rfl⟩) hW (mG_obj _ _ _ _ _ _) rfl rfl rfl rfl hl.1 (Nat.le_of_ble_eq_true rfl) dX5_isStation_2 ⟨Nat.le_of_ble_eq_true rfl, Nat.le_of_ble_eq_true rfl⟩ (fun r_2 xa1 G1 H locs hp hW => ?_)
  obtain ⟨hu, hr_2⟩ := hp
  cases hu
  refine lv_if_eq (tgt := 28) hx hb dX5_isStation_5 (by decide) (fun c_5 => ?_) (fun c_5 => ?_)
  · -- eq taken
    have c_5 := hr_2.f c_5
    refine lv_iconst (v := nI (0)) hx hb dX5_isStation_28 (by decide +kernel) ?_
    exact xe_i hx hb hr rfl hlocks hW ⟨rfl, tv.zero (fun h => c_5 h.1)⟩ (Nat.le_refl _) (Nat.le_refl _) dX5_isStation_29
  · -- eq not
    have c_5 := hr_2.t c_5
    have hT := c_5
    unfold pT at hT
    obtain ⟨ti, hti, rfl⟩ := x_nat (n := σ 12 0) hT.1 hT.2
    refine lv_iload_n hx hb dX5_isStation_8 rfl (lv_at hl 2 rfl) ?_
    refine lv_iconst (v := nI (0)) hx hb dX5_isStation_9 (by decide +kernel) ?_
    refine lv_aload_n hx hb dX5_isStation_10 rfl (lv_at hl 0 rfl) ?_
    refine m_get hx hb hts hin5 hown hW 11 (by decide) rfl (hts (.fieldLink RX5 39 "RestitutoryModel" "stationMany" "[I") (by decide +kernel)) (v := .ref (xa 20 11)) rfl dX5_isStation_11 ?_
    refine lv_iload_n hx hb dX5_isStation_14 rfl (lv_at hl 1 rfl) ?_
    refine m_ild hx hb hW 11 10 (by unfold mArr; decide) rfl rfl (ti) (by omega) (v := σ 11 ti) rfl dX5_isStation_15 ?_
    have b_15 := hB 11 (ti)
    refine lv_iconst (v := nI (1)) hx hb dX5_isStation_16 (by decide +kernel) ?_
    refine lv_isub hx hb dX5_isStation_17 ?_
    refine xs_i (As := [.int (x), .int (nI (0)), .int ((nI (σ 11 ti)) - (nI (1)))]) (rest := []) ⟨hx, hb, hml, hown, hts⟩ (c_X5_in l D sa xa (mG G0 D xa σ ρ la) (x) (nI (0)) ((nI (σ 11 ti)) - (nI (1)))) (va_cwS 3 hts gX5_isStation_X5_in rfl rfl rfl (by decide +kernel) ⟨Nat.le_of_ble_eq_true rfl, Nat.le_of_ble_eq_true rfl⟩) hW rfl rfl hl.1 (Nat.le_of_ble_eq_true rfl) dX5_isStation_18 ⟨Nat.le_of_ble_eq_true rfl, Nat.le_of_ble_eq_true rfl⟩ (fun r_18 xa1 G1 H locs hp hW => ?_)
    obtain ⟨hu, hr_18⟩ := hp
    cases hu
    refine lv_if_eq (tgt := 28) hx hb dX5_isStation_21 (by decide) (fun c_21 => ?_) (fun c_21 => ?_)
    · -- eq taken
      have c_21 := hr_18.f c_21
      refine lv_iconst (v := nI (0)) hx hb dX5_isStation_28 (by decide +kernel) ?_
      exact xe_i hx hb hr rfl hlocks hW ⟨rfl, tv.zero (fun h => c_21 (by have h1 := h.2; rw [xn_nI (by omega)] at h1; rw [nI_toInt (by omega), pk_sub_toInt (by omega) (by omega)]; omega))⟩ (Nat.le_refl _) (Nat.le_refl _) dX5_isStation_29
    · -- eq not
      have c_21 := hr_18.t c_21
      refine lv_iconst (v := nI (1)) hx hb dX5_isStation_24 (by decide +kernel) ?_
      refine lv_goto (tgt := 29) hx hb dX5_isStation_25 (by decide) ?_
      exact xe_i hx hb hr rfl hlocks hW ⟨rfl, tv.one (by unfold pS; rw [xn_nI (by omega)]; have h1 := c_21.1; have h2 := c_21.2; rw [nI_toInt (by omega)] at h1; rw [pk_sub_toInt (by omega) (by omega)] at h2; exact ⟨c_5, by omega, by omega⟩)⟩ (Nat.le_refl _) (Nat.le_refl _) dX5_isStation_29

set_option maxHeartbeats 4000000 in
set_option maxRecDepth 100000 in
theorem c_X5_goes (l : Launch) (D : xD) (sa : Nat → Nat) (xa : xA) (G0 : xG) (σ : Sg) (ρ : Nat → Nat) (la : Nat) (hB : ∀ j i, σ j i < 65536) {P1 P2 P3 : Prop} {a b d : Int32} (ha : tv a P1) (hb2 : tv b P2) (hd : tv d P3) : xCi l yX5_goes wsX5_goes ({ frames := 10, cells := 0, slots := 0, locals := 200 } : Room) D sa xa (mG G0 D xa σ ρ la) [.ref (xa 20 0), .int a, .int b, .int d] (fun r u => ∃ la1, u = (xa, mG G0 D xa σ ρ la1) ∧ tv r (la1 = 0) ∧ gk P1 P2 P3 la1) 0 0 := by
  intro sz
  refine Met.ofW (cc := cX5_goes) (maxL := 4) (ret := (some .boolean)) (by decide +kernel) rfl ?_
  intro p e s m args below meth c s₁ B hml hv
  obtain ⟨rfl, hsz, hv2⟩ := hv
  subst hsz
  have hx := B.exec
  have hb := B.bytes
  have hr := B.returns
  have hts := atoms_spec (ws := wsX5_goes) B.pre
  have hown : s.vm.findClass RX5 = some m.cls := findClass_of_methodNamed B.named
  have hlocks := B.notSynchronized
  have hin5 : ∀ w ∈ wsX50, w ∈ wsX5_goes := by decide +kernel
  have hW := xW.start (s := s) ⟨rfl, hv2⟩
  clear hv2
  generalize xAw xa (mG G0 D xa σ ρ la) s.heap.size = A at hW ⊢
  have hl := lv_entry ([.ref (xa 20 0), .int (a), .int (b), .int (d)]) (n := 4) (Nat.le_of_ble_eq_true rfl)
  rw [lg_entry_eq]
  generalize (lg_sl ([.ref (xa 20 0), .int (a), .int (b), .int (d)]) ++ List.replicate (4 - (lg_sl ([.ref (xa 20 0), .int (a), .int (b), .int (d)])).length) Slot.unset).toArray = ls at hl ⊢
  have hl : lv_has ls 4 [(0, .ref (xa 20 0)), (1, .int (a)), (2, .int (b)), (3, .int (d))] := hl
  refine lv_aload_n hx hb dX5_goes_0 rfl (lv_at hl 0 rfl) ?_
  refine lv_iload_n hx hb dX5_goes_1 rfl (lv_at hl 1 rfl) ?_
  refine lv_if_ne (tgt := 9) hx hb dX5_goes_2 (by decide) (fun c_2 => ?_) (fun c_2 => ?_)
  · -- ne taken
    have c_2 := ha.t c_2
    refine lv_iload_n hx hb dX5_goes_9 rfl (lv_at hl 2 rfl) ?_
    refine lv_if_ne (tgt := 17) hx hb dX5_goes_10 (by decide) (fun c_10 => ?_) (fun c_10 => ?_)
    · -- ne taken
      have c_10 := hb2.t c_10
      refine lv_iload_n hx hb dX5_goes_17 rfl (lv_at hl 3 rfl) ?_
      refine lv_if_eq (tgt := 25) hx hb dX5_goes_18 (by decide) (fun c_18 => ?_) (fun c_18 => ?_)
      · -- eq taken
        have c_18 := hd.f c_18
        refine lv_iconst (v := nI (3)) hx hb dX5_goes_25 (by decide +kernel) ?_
        refine m_putLa hx hb hts hin5 hown hW (hts (.fieldLink RX5 63 "RestitutoryModel" "last" "I") (by decide +kernel)) (v := 3) dX5_goes_26 (fun H locs hW => ?_)
        refine lv_aload_n hx hb dX5_goes_29 rfl (lv_at hl 0 rfl) ?_
        refine m_get hx hb hts hin5 hown hW 20 (by decide) rfl (hts (.fieldLink RX5 63 "RestitutoryModel" "last" "I") (by decide +kernel)) (v := .int (nI (3))) rfl dX5_goes_30 ?_
        refine lv_if_ne (tgt := 40) hx hb dX5_goes_33 (by decide) (fun c_33 => ?_) (fun c_33 => ?_)
        · -- ne taken
          refine lv_iconst (v := nI (0)) hx hb dX5_goes_40 (by decide +kernel) ?_
          exact xe_i hx hb hr rfl hlocks hW ⟨3, rfl, tv.zero (by omega), by unfold gk; grind⟩ (Nat.le_refl _) (Nat.le_refl _) dX5_goes_41
        · -- ne not
          exact absurd c_33 (by decide)
      · -- eq not
        have c_18 := hd.t c_18
        refine lv_iconst (v := nI (0)) hx hb dX5_goes_21 (by decide +kernel) ?_
        refine lv_goto (tgt := 26) hx hb dX5_goes_22 (by decide) ?_
        refine m_putLa hx hb hts hin5 hown hW (hts (.fieldLink RX5 63 "RestitutoryModel" "last" "I") (by decide +kernel)) (v := 0) dX5_goes_26 (fun H locs hW => ?_)
        refine lv_aload_n hx hb dX5_goes_29 rfl (lv_at hl 0 rfl) ?_
        refine m_get hx hb hts hin5 hown hW 20 (by decide) rfl (hts (.fieldLink RX5 63 "RestitutoryModel" "last" "I") (by decide +kernel)) (v := .int (nI (0))) rfl dX5_goes_30 ?_
        refine lv_if_ne (tgt := 40) hx hb dX5_goes_33 (by decide) (fun c_33 => ?_) (fun c_33 => ?_)
        · -- ne taken
          exact absurd rfl c_33
        · -- ne not
          refine lv_iconst (v := nI (1)) hx hb dX5_goes_36 (by decide +kernel) ?_
          refine lv_goto (tgt := 41) hx hb dX5_goes_37 (by decide) ?_
          exact xe_i hx hb hr rfl hlocks hW ⟨0, rfl, tv.one (by omega), by unfold gk; grind⟩ (Nat.le_refl _) (Nat.le_refl _) dX5_goes_41
    · -- ne not
      have c_10 := hb2.f c_10
      refine lv_iconst (v := nI (2)) hx hb dX5_goes_13 (by decide +kernel) ?_
      refine lv_goto (tgt := 26) hx hb dX5_goes_14 (by decide) ?_
      refine m_putLa hx hb hts hin5 hown hW (hts (.fieldLink RX5 63 "RestitutoryModel" "last" "I") (by decide +kernel)) (v := 2) dX5_goes_26 (fun H locs hW => ?_)
      refine lv_aload_n hx hb dX5_goes_29 rfl (lv_at hl 0 rfl) ?_
      refine m_get hx hb hts hin5 hown hW 20 (by decide) rfl (hts (.fieldLink RX5 63 "RestitutoryModel" "last" "I") (by decide +kernel)) (v := .int (nI (2))) rfl dX5_goes_30 ?_
      refine lv_if_ne (tgt := 40) hx hb dX5_goes_33 (by decide) (fun c_33 => ?_) (fun c_33 => ?_)
      · -- ne taken
        refine lv_iconst (v := nI (0)) hx hb dX5_goes_40 (by decide +kernel) ?_
        exact xe_i hx hb hr rfl hlocks hW ⟨2, rfl, tv.zero (by omega), by unfold gk; grind⟩ (Nat.le_refl _) (Nat.le_refl _) dX5_goes_41
      · -- ne not
        exact absurd c_33 (by decide)
  · -- ne not
    have c_2 := ha.f c_2
    refine lv_iconst (v := nI (1)) hx hb dX5_goes_5 (by decide +kernel) ?_
    refine lv_goto (tgt := 26) hx hb dX5_goes_6 (by decide) ?_
    refine m_putLa hx hb hts hin5 hown hW (hts (.fieldLink RX5 63 "RestitutoryModel" "last" "I") (by decide +kernel)) (v := 1) dX5_goes_26 (fun H locs hW => ?_)
    refine lv_aload_n hx hb dX5_goes_29 rfl (lv_at hl 0 rfl) ?_
    refine m_get hx hb hts hin5 hown hW 20 (by decide) rfl (hts (.fieldLink RX5 63 "RestitutoryModel" "last" "I") (by decide +kernel)) (v := .int (nI (1))) rfl dX5_goes_30 ?_
    refine lv_if_ne (tgt := 40) hx hb dX5_goes_33 (by decide) (fun c_33 => ?_) (fun c_33 => ?_)
    · -- ne taken
      refine lv_iconst (v := nI (0)) hx hb dX5_goes_40 (by decide +kernel) ?_
      exact xe_i hx hb hr rfl hlocks hW ⟨1, rfl, tv.zero (by omega), by unfold gk; grind⟩ (Nat.le_refl _) (Nat.le_refl _) dX5_goes_41
    · -- ne not
      exact absurd c_33 (by decide)
end
section
/-! the order: what the reference's two loops keep -/
theorem od_step {yr : Nat → Nat} {n a : Nat} {ρ : Nat → Nat} (ha : a ≤ n) (hA : ∀ q, q < a → ρ q = od yr n q) (hBq : ∀ q, a < q → q ≤ n → ρ q = od yr n (q - 1)) (hC : ipl yr (od yr n) (yr n) n = a) : ∀ q, q < n + 1 → rup ρ a n q = od yr (n + 1) q := by
  intro q hq
  rw [od, hC]
  unfold rup insF
  by_cases h1 : q = a
  · subst h1
    rw [if_pos rfl, if_neg (by omega), if_pos rfl]
  · rw [if_neg h1]
    by_cases h2 : q < a
    · rw [if_pos h2, hA q h2]
    · rw [if_neg h2, if_neg h1, hBq q (by omega) (by omega)]
theorem od_shift {yr : Nat → Nat} {n a : Nat} {ρ : Nat → Nat} (h0 : 0 < a) (hA : ∀ q, q < a → ρ q = od yr n q) (hBq : ∀ q, a < q → q ≤ n → ρ q = od yr n (q - 1)) : (∀ q, q < a - 1 → rup ρ a (od yr n (a - 1)) q = od yr n q) ∧ (∀ q, a - 1 < q → q ≤ n → rup ρ a (od yr n (a - 1)) q = od yr n (q - 1)) := by
  refine ⟨fun q hq => ?_, fun q h1 h2 => ?_⟩
  · unfold rup
    rw [if_neg (by omega)]
    exact hA q (by omega)
  · unfold rup
    by_cases h : q = a
    · rw [if_pos h, h]
    · rw [if_neg h]
      exact hBq q (by omega) h2
theorem ipl_go {yr o : Nat → Nat} {y a n : Nat} (h : ipl yr o y n = ipl yr o y a) (h0 : 0 < a) (hy : y < yr (o (a - 1))) : ipl yr o y n = ipl yr o y (a - 1) := by
  obtain ⟨b, rfl⟩ : ∃ b, a = b + 1 := ⟨a - 1, by omega⟩
  rw [h, ipl]
  rw [if_pos (by rw [show b + 1 - 1 = b by omega] at hy; exact hy)]
  rfl
theorem ipl_end {yr o : Nat → Nat} {y a n : Nat} (h : ipl yr o y n = ipl yr o y a) (he : a = 0 ∨ ¬ y < yr (o (a - 1))) : ipl yr o y n = a := by
  rw [h]
  cases a with
  | zero => rfl
  | succ b =>
    rcases he with he | he
    · omega
    · rw [show b + 1 - 1 = b by omega] at he
      rw [ipl, if_neg he]
theorem oi_eq {r : Option Nat} {x : Nat} (hx : x < 2 ^ 31) (h : ∀ i, r = some i → i < 2 ^ 31) (he : oi r = nI x) : r = some x := by
  cases r with
  | none =>
    have h2 := congrArg Int32.toInt he
    rw [show oi none = -1 from rfl, x_tm1, nI_toInt hx] at h2
    omega
  | some i => rw [(nI_eq (h i rfl) hx).mp he]
theorem Gd.party {σ : Sg} (hg : Gd σ) {i k : Nat} (hi : i < σ 12 0) (hk : k < σ 11 i) : σ 13 (8 * i + k) < σ 5 0 := ((hg.2.2.2.2.1 i hi).2.2 k hk).1
theorem hold_lt {σ : Sg} (hg : Gd σ) {i a : Nat} (hi : i < σ 12 0) (h : hold σ i = some a) : a < σ 5 0 := by
  unfold hold at h
  split at h
  · cases h
  · cases h
    exact hg.party hi (ordr_lt (by omega))
theorem ttl_lt {σ : Sg} (hg : Gd σ) {i : Nat} (hi : i < σ 12 0) : ∀ {q t : Nat}, q < σ 11 i → ttl σ i (ordr σ i) (σ 11 i) q t → t < σ 5 0
  | 0, t, hq, h => by rw [h]; exact hg.party hi (ordr_lt hq)
  | q + 1, t, hq, ⟨t0, h0, h1⟩ => by
    rcases h1 with ⟨_, rfl⟩ | ⟨_, rfl⟩
    · exact hg.party hi (ordr_lt hq)
    · exact ttl_lt hg hi (by omega) h0
theorem own_lt {σ : Sg} (hg : Gd σ) {i a : Nat} {r : Option Nat} (hi : i < σ 12 0) (h : own σ i r) (hr : r = some a) : a < σ 5 0 := by
  rcases h with ⟨_, rfl⟩ | ⟨h0, t, ht, rfl⟩
  · cases hr
  · have h1 := ttl_lt hg hi (by omega) ht
    unfold lif at hr
    split at hr
    · cases hr; exact h1
    · exact fh_lt hg 3 t a h1 hr
end
section
/-! THE CLASS'S STATE: the same numbers 'σ', and 'τ': who ends with the title (row 0, people), the first and the last station (rows 1, 2, things), the one ahead and the next one (rows 3, 4, stations; station k of thing i is 8 * i + k) -/
abbrev Tg : Type := Nat → Nat → Option Nat
def lvS (σ : Sg) (j : Nat) : Prop := j / 8 < σ 12 0 ∧ j % 8 < σ 11 (j / 8)
theorem lvS_of {σ : Sg} {i k : Nat} (hi : i < σ 12 0) (hk : k < σ 11 i) (h8 : σ 11 i ≤ 8) : lvS σ (8 * i + k) := by
  unfold lvS
  rw [show (8 * i + k) / 8 = i by omega, show (8 * i + k) % 8 = k by omega]
  exact ⟨hi, hk⟩
def xfs (xa : xA) (σ : Sg) : List Value := [.ref (xa 1 0), .int (nI (σ 5 0)), .ref (xa 2 0), .int (nI (σ 7 0)), .ref (xa 3 0), .int (nI (σ 0 0)), .ref (xa 4 0), .int (nI (σ 12 0))]
def pfs (xa : xA) (σ : Sg) (τ : Tg) (i : Nat) : List Value := [.int (nI i), .int (nI (σ 1 i)), .int (nI (σ 2 i)), .ref (xa 11 i), .int (nI (σ 4 i)), va_rf ((τ 0 i).map (xa 10))]
def efs (σ : Sg) (i : Nat) : List Value := [.int (nI (σ 6 (4 * i))), .int (nI (σ 6 (4 * i + 1))), .int (nI (σ 6 (4 * i + 2))), .int (nI (σ 6 (4 * i + 3)))]
def tfs (xa : xA) (σ : Sg) (τ : Tg) (i : Nat) : List Value := [.int (nI (σ 9 i)), .int (nI (σ 10 i)), .ref (xa 14 i), .int (nI (σ 11 i)), va_rf ((τ 1 i).map (xa 15)), va_rf ((τ 2 i).map (xa 15))]
def sfs (xa : xA) (σ : Sg) (τ : Tg) (j : Nat) : List Value := [.int (nI (j % 8)), .ref (xa 10 (σ 13 j)), .int (nI (σ 14 j)), .int (nI (σ 15 j)), .int (nI (σ 16 j)), .int (nI (σ 17 j)), .int (nI (σ 18 j)), va_rf ((τ 3 j).map (xa 15)), va_rf ((τ 4 j).map (xa 15))]
def rfs (cA : ClassId) (n : Nat) (f : Nat → Option Nat) : va_E := .inl (cA, n, .inr (.inr (.inr (.inr f))))
def xE (D : xD) (xa : xA) (σ : Sg) (τ : Tg) (k i : Nat) : Option va_E := match k with
  | 0 => if i = 0 then some (.inr (4, xfs xa σ)) else none
  | 1 => if i = 0 then some (rfs (D.2 0) 12 (fun j => if j < σ 5 0 then some (xa 10 j) else none)) else none
  | 2 => if i = 0 then some (rfs (D.2 1) 20 (fun j => if j < σ 7 0 then some (xa 12 j) else none)) else none
  | 3 => if i = 0 then some (.inl (D.2 4, 5, .inl (fun j => nI (σ 8 j)))) else none
  | 4 => if i = 0 then some (rfs (D.2 2) 10 (fun j => if j < σ 12 0 then some (xa 13 j) else none)) else none
  | 10 => if i < σ 5 0 then some (.inr (1, pfs xa σ τ i)) else none
  | 11 => if i < σ 5 0 then some (rfs (D.2 0) 11 (fun j => if j < σ 4 i then some (xa 10 (σ 3 (12 * i + j))) else none)) else none
  | 12 => if i < σ 7 0 then some (.inr (0, efs σ i)) else none
  | 13 => if i < σ 12 0 then some (.inr (3, tfs xa σ τ i)) else none
  | 14 => if i < σ 12 0 then some (rfs (D.2 3) 8 (fun j => if j < σ 11 i then some (xa 15 (8 * i + j)) else none)) else none
  | 15 => if i / 8 < σ 12 0 ∧ i % 8 < σ 11 (i / 8) then some (.inr (2, sfs xa σ τ i)) else none
  | _ => none
def xGs (G0 : xG) (D : xD) (xa : xA) (σ : Sg) (τ : Tg) : xG := fun k i => if k < 20 then xE D xa σ τ k i else G0 k i
section XG
variable (G0 : xG) (D : xD) (xa : xA) (σ : Sg) (τ : Tg) {i : Nat}
theorem xg_x : xGs G0 D xa σ τ 0 0 = some (.inr (4, xfs xa σ)) := rfl
theorem xg_pa : xGs G0 D xa σ τ 1 0 = some (rfs (D.2 0) 12 (fun j => if j < σ 5 0 then some (xa 10 j) else none)) := rfl
theorem xg_ea : xGs G0 D xa σ τ 2 0 = some (rfs (D.2 1) 20 (fun j => if j < σ 7 0 then some (xa 12 j) else none)) := rfl
theorem xg_fa : xGs G0 D xa σ τ 3 0 = some (.inl (D.2 4, 5, .inl (fun j => nI (σ 8 j)))) := rfl
theorem xg_ta : xGs G0 D xa σ τ 4 0 = some (rfs (D.2 2) 10 (fun j => if j < σ 12 0 then some (xa 13 j) else none)) := rfl
theorem xg_p (h : i < σ 5 0) : xGs G0 D xa σ τ 10 i = some (.inr (1, pfs xa σ τ i)) := (if_pos (by omega : 10 < 20)).trans (if_pos h)
theorem xg_h (h : i < σ 5 0) : xGs G0 D xa σ τ 11 i = some (rfs (D.2 0) 11 (fun j => if j < σ 4 i then some (xa 10 (σ 3 (12 * i + j))) else none)) := (if_pos (by omega : 11 < 20)).trans (if_pos h)
theorem xg_e (h : i < σ 7 0) : xGs G0 D xa σ τ 12 i = some (.inr (0, efs σ i)) := (if_pos (by omega : 12 < 20)).trans (if_pos h)
theorem xg_t (h : i < σ 12 0) : xGs G0 D xa σ τ 13 i = some (.inr (3, tfs xa σ τ i)) := (if_pos (by omega : 13 < 20)).trans (if_pos h)
theorem xg_sa (h : i < σ 12 0) : xGs G0 D xa σ τ 14 i = some (rfs (D.2 3) 8 (fun j => if j < σ 11 i then some (xa 15 (8 * i + j)) else none)) := (if_pos (by omega : 14 < 20)).trans (if_pos h)
theorem xg_s (h : lvS σ i) : xGs G0 D xa σ τ 15 i = some (.inr (2, sfs xa σ τ i)) := (if_pos (by omega : 15 < 20)).trans (if_pos h)
end XG
/-- the stations hang together in their order -/
def LL (σ : Sg) (τ : Tg) : Prop := ∀ i, i < σ 12 0 → τ 1 i = (if σ 11 i = 0 then none else some (8 * i + ordr σ i 0)) ∧ τ 2 i = (if σ 11 i = 0 then none else some (8 * i + ordr σ i (σ 11 i - 1))) ∧
  ∀ q, q < σ 11 i → τ 3 (8 * i + ordr σ i q) = (if q = 0 then none else some (8 * i + ordr σ i (q - 1))) ∧ τ 4 (8 * i + ordr σ i q) = (if q + 1 < σ 11 i then some (8 * i + ordr σ i (q + 1)) else none)
/-- who is told to end with a title is somebody -/
def TE (σ : Sg) (τ : Tg) : Prop := ∀ i p, i < σ 5 0 → τ 0 i = some p → p < σ 5 0
section XRD
variable {p : Program} {l : Launch} {e : Env} {R : Room} {s : State} {m : MethodId} {args : Array Value} {below : List Frame} {meth : Method} {c : Code} {H : Heap} {locs : List Loc} {cells slots : Nat} {Q : State → Prop}
variable {cc : ByteArray} {pc : Nat} {ls : Array Slot} {rest : List Value} {D : xD} {sa : Nat → Nat} {A : Nat → Prop} {xa : xA} {G : xG}
/-- a place of an array of references -/
theorem x_ald2 (hexec : p.tables.exec = Jvm.exec) (hb : c.code = cc) (hW : xW D sa A s xa G H locs) (k i t : Nat) {C : String} (ht : (xtys D)[t]? = some (D.2 t, .object C)) {n : Nat} {f : Nat → Option Nat} (hG : G k i = some (rfs (D.2 t) n f)) (j : Nat) (hlt : j < n) (hn : n < 2 ^ 31) {v : Value} (hv : va_rf (f j) = v) (hdg : decode cc pc = .ok (.aaload, 1))
    (kk : W p l e R s m args below meth c H locs cells slots Q (F0 m (pc + 1) ls (v :: rest))) : W p l e R s m args below meth c H locs cells slots Q (F0 m pc ls (.int (nI j) :: .ref (xa k i) :: rest)) := by
  subst hv
  exact x_ald hexec hb hW k i t ht hG j rfl hlt hn rfl hdg kk
end XRD
end
section
set_option maxHeartbeats 4000000 in
set_option maxRecDepth 100000 in
theorem c_X4_requireGroup (l : Launch) (hst0 : l.stackTraces = false) (D : xD) (sa : Nat → Nat) (xa : xA) (G : xG) (g : Int32) : xXv l yX4_requireGroup wsX4_requireGroup ({ frames := 10, cells := 1, slots := 6, locals := 200 } : Room) D sa xa G [.int g] (fun u => u = (xa, G) ∧ rg g 0 3) (fun E => E = xIob ∧ ¬ rg g 0 3) 1 6 := by
  intro sz
  refine vx_ofW (cc := cX4_requireGroup) (maxL := 1) (ret := none) (by decide +kernel) rfl ?_
  intro p e s m args below meth c s₁ B hml hout hv
  obtain ⟨rfl, hsz, hv2⟩ := hv
  subst hsz
  have hx := B.exec
  have hb := B.bytes
  have hr := B.returns
  have hts := atoms_spec (ws := wsX4_requireGroup) B.pre
  have hown : s.vm.findClass RX4 = some m.cls := findClass_of_methodNamed B.named
  have hlocks := B.notSynchronized
  have hW := xW.start (s := s) ⟨rfl, hv2⟩
  clear hv2
  generalize xAw xa (G) s.heap.size = A at hW ⊢
  have hl := lv_entry ([.int (g)]) (n := 1) (Nat.le_of_ble_eq_true rfl)
  rw [lg_entry_eq]
  generalize (lg_sl ([.int (g)]) ++ List.replicate (1 - (lg_sl ([.int (g)])).length) Slot.unset).toArray = ls at hl ⊢
  have hl : lv_has ls 1 [(0, .int (g))] := hl
  refine lv_iload_n hx hb dX4_requireGroup_0 rfl (lv_at hl 0 rfl) ?_
  refine lv_if_lt (tgt := 9) hx hb dX4_requireGroup_1 (by decide) (fun c_1 => ?_) (fun c_1 => ?_)
  · -- lt taken
    have c_1 := Int32.lt_iff_toInt_lt.mp c_1
    rw [x_t0] at c_1
    exact y_throw (cls := xIob) (text := "there is no such group") hx hb hst0 hown ce_iob (hts (.classLink RX4 157 "java/lang/IndexOutOfBoundsException") (by decide +kernel)) (hts (.initialized "java/lang/IndexOutOfBoundsException") (by decide +kernel)) (fun w h => hts w (List.mem_cons_of_mem _ (List.mem_append_right _ h))) (by decide +kernel) hW (hl.1.trans hml.symm) dX4_requireGroup_9 dX4_requireGroup_12 dX4_requireGroup_13 dX4_requireGroup_15 dX4_requireGroup_18 ⟨hout, hlocks⟩ (Nat.le_of_ble_eq_true rfl) (Nat.le_of_ble_eq_true rfl) ⟨Nat.le_of_ble_eq_true rfl, Nat.le_of_ble_eq_true rfl⟩ (⟨rfl, fun h => by unfold rg at h; omega⟩) ⟨Nat.le_of_ble_eq_true rfl, Nat.le_of_ble_eq_true rfl⟩
  · -- lt not
    have c_1 : ¬ ((g).toInt < ((0 : Int32)).toInt) := fun h => c_1 (Int32.lt_iff_toInt_lt.mpr h)
    rw [x_t0] at c_1
    refine lv_iload_n hx hb dX4_requireGroup_4 rfl (lv_at hl 0 rfl) ?_
    refine lv_iconst (v := nI (4)) hx hb dX4_requireGroup_5 (by decide +kernel) ?_
    refine lv_icmp_lt (tgt := 19) hx hb dX4_requireGroup_6 (by decide) (fun c_6 => ?_) (fun c_6 => ?_)
    · -- lt taken
      have c_6 := Int32.lt_iff_toInt_lt.mp c_6
      rw [nI_toInt (n := 4) (by omega)] at c_6
      exact ye_v hx hb hr hlocks hW ⟨rfl, by unfold rg; omega⟩ (Nat.le_of_ble_eq_true rfl) (Nat.le_of_ble_eq_true rfl) dX4_requireGroup_19
    · -- lt not
      have c_6 : ¬ ((g).toInt < (nI (4)).toInt) := fun h => c_6 (Int32.lt_iff_toInt_lt.mpr h)
      rw [nI_toInt (n := 4) (by omega)] at c_6
      exact y_throw (cls := xIob) (text := "there is no such group") hx hb hst0 hown ce_iob (hts (.classLink RX4 157 "java/lang/IndexOutOfBoundsException") (by decide +kernel)) (hts (.initialized "java/lang/IndexOutOfBoundsException") (by decide +kernel)) (fun w h => hts w (List.mem_cons_of_mem _ (List.mem_append_right _ h))) (by decide +kernel) hW (hl.1.trans hml.symm) dX4_requireGroup_9 dX4_requireGroup_12 dX4_requireGroup_13 dX4_requireGroup_15 dX4_requireGroup_18 ⟨hout, hlocks⟩ (Nat.le_of_ble_eq_true rfl) (Nat.le_of_ble_eq_true rfl) ⟨Nat.le_of_ble_eq_true rfl, Nat.le_of_ble_eq_true rfl⟩ (⟨rfl, fun h => by unfold rg at h; omega⟩) ⟨Nat.le_of_ble_eq_true rfl, Nat.le_of_ble_eq_true rfl⟩

set_option maxHeartbeats 4000000 in
set_option maxRecDepth 100000 in
theorem c_X4_requireLand (l : Launch) (hst0 : l.stackTraces = false) (D : xD) (sa : Nat → Nat) (xa : xA) (G : xG) (a : Int32) : xXv l yX4_requireLand wsX4_requireLand ({ frames := 10, cells := 1, slots := 6, locals := 200 } : Room) D sa xa G [.int a] (fun u => u = (xa, G) ∧ pL a) (fun E => E = xIob ∧ ¬ pL a) 1 6 := by
  intro sz
  refine vx_ofW (cc := cX4_requireLand) (maxL := 1) (ret := none) (by decide +kernel) rfl ?_
  intro p e s m args below meth c s₁ B hml hout hv
  obtain ⟨rfl, hsz, hv2⟩ := hv
  subst hsz
  have hx := B.exec
  have hb := B.bytes
  have hr := B.returns
  have hts := atoms_spec (ws := wsX4_requireLand) B.pre
  have hown : s.vm.findClass RX4 = some m.cls := findClass_of_methodNamed B.named
  have hlocks := B.notSynchronized
  have hW := xW.start (s := s) ⟨rfl, hv2⟩
  clear hv2
  generalize xAw xa (G) s.heap.size = A at hW ⊢
  have hl := lv_entry ([.int (a)]) (n := 1) (Nat.le_of_ble_eq_true rfl)
  rw [lg_entry_eq]
  generalize (lg_sl ([.int (a)]) ++ List.replicate (1 - (lg_sl ([.int (a)])).length) Slot.unset).toArray = ls at hl ⊢
  have hl : lv_has ls 1 [(0, .int (a))] := hl
  refine lv_iload_n hx hb dX4_requireLand_0 rfl (lv_at hl 0 rfl) ?_
  refine lv_if_lt (tgt := 9) hx hb dX4_requireLand_1 (by decide) (fun c_1 => ?_) (fun c_1 => ?_)
  · -- lt taken
    have c_1 := Int32.lt_iff_toInt_lt.mp c_1
    rw [x_t0] at c_1
    exact y_throw (cls := xIob) (text := "there is no such land") hx hb hst0 hown ce_iob (hts (.classLink RX4 157 "java/lang/IndexOutOfBoundsException") (by decide +kernel)) (hts (.initialized "java/lang/IndexOutOfBoundsException") (by decide +kernel)) (fun w h => hts w (List.mem_cons_of_mem _ (List.mem_append_right _ h))) (by decide +kernel) hW (hl.1.trans hml.symm) dX4_requireLand_9 dX4_requireLand_12 dX4_requireLand_13 dX4_requireLand_15 dX4_requireLand_18 ⟨hout, hlocks⟩ (Nat.le_of_ble_eq_true rfl) (Nat.le_of_ble_eq_true rfl) ⟨Nat.le_of_ble_eq_true rfl, Nat.le_of_ble_eq_true rfl⟩ (⟨rfl, fun h => by unfold pL at h; omega⟩) ⟨Nat.le_of_ble_eq_true rfl, Nat.le_of_ble_eq_true rfl⟩
  · -- lt not
    have c_1 : ¬ ((a).toInt < ((0 : Int32)).toInt) := fun h => c_1 (Int32.lt_iff_toInt_lt.mpr h)
    rw [x_t0] at c_1
    refine lv_iload_n hx hb dX4_requireLand_4 rfl (lv_at hl 0 rfl) ?_
    refine lv_iconst (v := nI (5)) hx hb dX4_requireLand_5 (by decide +kernel) ?_
    refine lv_icmp_lt (tgt := 19) hx hb dX4_requireLand_6 (by decide) (fun c_6 => ?_) (fun c_6 => ?_)
    · -- lt taken
      have c_6 := Int32.lt_iff_toInt_lt.mp c_6
      rw [nI_toInt (n := 5) (by omega)] at c_6
      exact ye_v hx hb hr hlocks hW ⟨rfl, by unfold pL; omega⟩ (Nat.le_of_ble_eq_true rfl) (Nat.le_of_ble_eq_true rfl) dX4_requireLand_19
    · -- lt not
      have c_6 : ¬ ((a).toInt < (nI (5)).toInt) := fun h => c_6 (Int32.lt_iff_toInt_lt.mpr h)
      rw [nI_toInt (n := 5) (by omega)] at c_6
      exact y_throw (cls := xIob) (text := "there is no such land") hx hb hst0 hown ce_iob (hts (.classLink RX4 157 "java/lang/IndexOutOfBoundsException") (by decide +kernel)) (hts (.initialized "java/lang/IndexOutOfBoundsException") (by decide +kernel)) (fun w h => hts w (List.mem_cons_of_mem _ (List.mem_append_right _ h))) (by decide +kernel) hW (hl.1.trans hml.symm) dX4_requireLand_9 dX4_requireLand_12 dX4_requireLand_13 dX4_requireLand_15 dX4_requireLand_18 ⟨hout, hlocks⟩ (Nat.le_of_ble_eq_true rfl) (Nat.le_of_ble_eq_true rfl) ⟨Nat.le_of_ble_eq_true rfl, Nat.le_of_ble_eq_true rfl⟩ (⟨rfl, fun h => by unfold pL at h; omega⟩) ⟨Nat.le_of_ble_eq_true rfl, Nat.le_of_ble_eq_true rfl⟩

set_option maxHeartbeats 4000000 in
set_option maxRecDepth 100000 in
theorem c_X4_requireRange (l : Launch) (hst0 : l.stackTraces = false) (D : xD) (sa : Nat → Nat) (xa : xA) (G : xG) (v a b : Int32) : xXv l yX4_requireRange wsX4_requireRange ({ frames := 10, cells := 1, slots := 6, locals := 200 } : Room) D sa xa G [.int v, .int a, .int b] (fun u => u = (xa, G) ∧ (a.toInt ≤ v.toInt ∧ v.toInt ≤ b.toInt)) (fun E => E = xIae ∧ ¬ (a.toInt ≤ v.toInt ∧ v.toInt ≤ b.toInt)) 1 6 := by
  intro sz
  refine vx_ofW (cc := cX4_requireRange) (maxL := 3) (ret := none) (by decide +kernel) rfl ?_
  intro p e s m args below meth c s₁ B hml hout hv
  obtain ⟨rfl, hsz, hv2⟩ := hv
  subst hsz
  have hx := B.exec
  have hb := B.bytes
  have hr := B.returns
  have hts := atoms_spec (ws := wsX4_requireRange) B.pre
  have hown : s.vm.findClass RX4 = some m.cls := findClass_of_methodNamed B.named
  have hlocks := B.notSynchronized
  have hW := xW.start (s := s) ⟨rfl, hv2⟩
  clear hv2
  generalize xAw xa (G) s.heap.size = A at hW ⊢
  have hl := lv_entry ([.int (v), .int (a), .int (b)]) (n := 3) (Nat.le_of_ble_eq_true rfl)
  rw [lg_entry_eq]
  generalize (lg_sl ([.int (v), .int (a), .int (b)]) ++ List.replicate (3 - (lg_sl ([.int (v), .int (a), .int (b)])).length) Slot.unset).toArray = ls at hl ⊢
  have hl : lv_has ls 3 [(0, .int (v)), (1, .int (a)), (2, .int (b))] := hl
  refine lv_iload_n hx hb dX4_requireRange_0 rfl (lv_at hl 0 rfl) ?_
  refine lv_iload_n hx hb dX4_requireRange_1 rfl (lv_at hl 1 rfl) ?_
  refine lv_icmp_lt (tgt := 10) hx hb dX4_requireRange_2 (by decide) (fun c_2 => ?_) (fun c_2 => ?_)
  · -- lt taken
    have c_2 := Int32.lt_iff_toInt_lt.mp c_2
    exact y_throw (cls := xIae) (text := "an argument is out of its range") hx hb hst0 hown ce_iae (hts (.classLink RX4 62 "java/lang/IllegalArgumentException") (by decide +kernel)) (hts (.initialized "java/lang/IllegalArgumentException") (by decide +kernel)) (fun w h => hts w (List.mem_cons_of_mem _ (List.mem_append_right _ h))) (by decide +kernel) hW (hl.1.trans hml.symm) dX4_requireRange_10 dX4_requireRange_13 dX4_requireRange_14 dX4_requireRange_16 dX4_requireRange_19 ⟨hout, hlocks⟩ (Nat.le_of_ble_eq_true rfl) (Nat.le_of_ble_eq_true rfl) ⟨Nat.le_of_ble_eq_true rfl, Nat.le_of_ble_eq_true rfl⟩ (⟨rfl, fun h => by omega⟩) ⟨Nat.le_of_ble_eq_true rfl, Nat.le_of_ble_eq_true rfl⟩
  · -- lt not
    have c_2 : ¬ ((v).toInt < (a).toInt) := fun h => c_2 (Int32.lt_iff_toInt_lt.mpr h)
    refine lv_iload_n hx hb dX4_requireRange_5 rfl (lv_at hl 0 rfl) ?_
    refine lv_iload_n hx hb dX4_requireRange_6 rfl (lv_at hl 2 rfl) ?_
    refine lv_icmp_le (tgt := 20) hx hb dX4_requireRange_7 (by decide) (fun c_7 => ?_) (fun c_7 => ?_)
    · -- le taken
      have c_7 := Int32.le_iff_toInt_le.mp c_7
      exact ye_v hx hb hr hlocks hW ⟨rfl, by omega⟩ (Nat.le_of_ble_eq_true rfl) (Nat.le_of_ble_eq_true rfl) dX4_requireRange_20
    · -- le not
      have c_7 : ¬ ((v).toInt ≤ (b).toInt) := fun h => c_7 (Int32.le_iff_toInt_le.mpr h)
      exact y_throw (cls := xIae) (text := "an argument is out of its range") hx hb hst0 hown ce_iae (hts (.classLink RX4 62 "java/lang/IllegalArgumentException") (by decide +kernel)) (hts (.initialized "java/lang/IllegalArgumentException") (by decide +kernel)) (fun w h => hts w (List.mem_cons_of_mem _ (List.mem_append_right _ h))) (by decide +kernel) hW (hl.1.trans hml.symm) dX4_requireRange_10 dX4_requireRange_13 dX4_requireRange_14 dX4_requireRange_16 dX4_requireRange_19 ⟨hout, hlocks⟩ (Nat.le_of_ble_eq_true rfl) (Nat.le_of_ble_eq_true rfl) ⟨Nat.le_of_ble_eq_true rfl, Nat.le_of_ble_eq_true rfl⟩ (⟨rfl, fun h => by omega⟩) ⟨Nat.le_of_ble_eq_true rfl, Nat.le_of_ble_eq_true rfl⟩

set_option maxHeartbeats 4000000 in
set_option maxRecDepth 100000 in
theorem c_X4_personNumbered (l : Launch) (hst0 : l.stackTraces = false) (D : xD) (sa : Nat → Nat) (xa : xA) (G0 : xG) (σ : Sg) (τ : Tg) (hg : Gd σ) (hL : LL σ τ) (x : Int32) : xXr l yX4_personNumbered wsX4_personNumbered ({ frames := 10, cells := 1, slots := 6, locals := 200 } : Room) D sa xa (xGs G0 D xa σ τ) [.ref (xa 0 0), .int x] (fun a u => ∃ i, i < σ 5 0 ∧ x = nI i ∧ a = xa 10 i ∧ u = (xa, xGs G0 D xa σ τ)) (fun E => E = xIob ∧ ¬ pP σ x) 1 6 := by
  have hB := hg.1
  have h5 := hg.2.1.1
  have h7 := hg.2.1.2.1
  have h12 := hg.2.1.2.2.1
  have hy0 := hg.2.1.2.2.2.1
  have hy1 := hg.2.1.2.2.2.2
  have hm := hg.hm
  have hs8 := hg.hs8
  intro sz
  refine vx_ofW (cc := cX4_personNumbered) (maxL := 3) (ret := (some (.object "Restitutory$Person"))) (by decide +kernel) rfl ?_
  intro p e s m args below meth c s₁ B hml hout hv
  obtain ⟨rfl, hsz, hv2⟩ := hv
  subst hsz
  have hx := B.exec
  have hb := B.bytes
  have hr := B.returns
  have hts := atoms_spec (ws := wsX4_personNumbered) B.pre
  have hown : s.vm.findClass RX4 = some m.cls := findClass_of_methodNamed B.named
  have hlocks := B.notSynchronized
  have hin4 : ∀ w ∈ wsX40, w ∈ wsX4_personNumbered := by decide +kernel
  have hW := xW.start (s := s) ⟨rfl, hv2⟩
  clear hv2
  generalize xAw xa (xGs G0 D xa σ τ) s.heap.size = A at hW ⊢
  have hl := lv_entry ([.ref (xa 0 0), .int (x)]) (n := 3) (Nat.le_of_ble_eq_true rfl)
  rw [lg_entry_eq]
  generalize (lg_sl ([.ref (xa 0 0), .int (x)]) ++ List.replicate (3 - (lg_sl ([.ref (xa 0 0), .int (x)])).length) Slot.unset).toArray = ls at hl ⊢
  have hl : lv_has ls 3 [(0, .ref (xa 0 0)), (1, .int (x))] := hl
  refine lv_iload_n hx hb dX4_personNumbered_0 rfl (lv_at hl 1 rfl) ?_
  refine lv_if_lt (tgt := 19) hx hb dX4_personNumbered_1 (by decide) (fun c_1 => ?_) (fun c_1 => ?_)
  · -- lt taken
    have c_1 := Int32.lt_iff_toInt_lt.mp c_1
    rw [x_t0] at c_1
    refine lv_null hx hb dX4_personNumbered_19 ?_
    refine lv_astore_nN (lv' := [(2, .null), (0, .ref (xa 0 0)), (1, .int (x))]) hx hb dX4_personNumbered_20 rfl hl (by decide) rfl (fun ls hl => ?_)
    have hl : lv_has ls 3 [(0, .ref (xa 0 0)), (1, .int (x)), (2, .null)] := lv_sub hl [1, 2, 0] rfl
    refine lv_aload_nN hx hb dX4_personNumbered_21 rfl (lv_at hl 2 rfl) ?_
    refine lv_ifnonnullN hx hb dX4_personNumbered_22 ?_
    exact y_throw (cls := xIob) (text := "there is no such person") hx hb hst0 hown ce_iob (hts (.classLink RX4 157 "java/lang/IndexOutOfBoundsException") (by decide +kernel)) (hts (.initialized "java/lang/IndexOutOfBoundsException") (by decide +kernel)) (fun w h => hts w (List.mem_cons_of_mem _ (List.mem_append_right _ h))) (by decide +kernel) hW (hl.1.trans hml.symm) dX4_personNumbered_25 dX4_personNumbered_28 dX4_personNumbered_29 dX4_personNumbered_31 dX4_personNumbered_34 ⟨hout, hlocks⟩ (Nat.le_of_ble_eq_true rfl) (Nat.le_of_ble_eq_true rfl) ⟨Nat.le_of_ble_eq_true rfl, Nat.le_of_ble_eq_true rfl⟩ (⟨rfl, fun h => by unfold pP at h; (first | omega | (rw [nI_toInt (by omega)] at h; omega))⟩) ⟨Nat.le_of_ble_eq_true rfl, Nat.le_of_ble_eq_true rfl⟩
  · -- lt not
    have c_1 : ¬ ((x).toInt < ((0 : Int32)).toInt) := fun h => c_1 (Int32.lt_iff_toInt_lt.mpr h)
    rw [x_t0] at c_1
    refine lv_iload_n hx hb dX4_personNumbered_4 rfl (lv_at hl 1 rfl) ?_
    refine lv_bipush (v := nI (12)) hx hb dX4_personNumbered_5 (by decide +kernel) ?_
    refine lv_icmp_ge (tgt := 19) hx hb dX4_personNumbered_7 (by decide) (fun c_7 => ?_) (fun c_7 => ?_)
    · -- ge taken
      have c_7 := Int32.le_iff_toInt_le.mp c_7
      rw [nI_toInt (n := 12) (by omega)] at c_7
      refine lv_null hx hb dX4_personNumbered_19 ?_
      refine lv_astore_nN (lv' := [(2, .null), (0, .ref (xa 0 0)), (1, .int (x))]) hx hb dX4_personNumbered_20 rfl hl (by decide) rfl (fun ls hl => ?_)
      have hl : lv_has ls 3 [(0, .ref (xa 0 0)), (1, .int (x)), (2, .null)] := lv_sub hl [1, 2, 0] rfl
      refine lv_aload_nN hx hb dX4_personNumbered_21 rfl (lv_at hl 2 rfl) ?_
      refine lv_ifnonnullN hx hb dX4_personNumbered_22 ?_
      exact y_throw (cls := xIob) (text := "there is no such person") hx hb hst0 hown ce_iob (hts (.classLink RX4 157 "java/lang/IndexOutOfBoundsException") (by decide +kernel)) (hts (.initialized "java/lang/IndexOutOfBoundsException") (by decide +kernel)) (fun w h => hts w (List.mem_cons_of_mem _ (List.mem_append_right _ h))) (by decide +kernel) hW (hl.1.trans hml.symm) dX4_personNumbered_25 dX4_personNumbered_28 dX4_personNumbered_29 dX4_personNumbered_31 dX4_personNumbered_34 ⟨hout, hlocks⟩ (Nat.le_of_ble_eq_true rfl) (Nat.le_of_ble_eq_true rfl) ⟨Nat.le_of_ble_eq_true rfl, Nat.le_of_ble_eq_true rfl⟩ (⟨rfl, fun h => by unfold pP at h; (first | omega | (rw [nI_toInt (by omega)] at h; omega))⟩) ⟨Nat.le_of_ble_eq_true rfl, Nat.le_of_ble_eq_true rfl⟩
    · -- ge not
      have c_7 : ¬ ((nI (12)).toInt ≤ (x).toInt) := fun h => c_7 (Int32.le_iff_toInt_le.mpr h)
      rw [nI_toInt (n := 12) (by omega)] at c_7
      obtain ⟨i, hi0, rfl⟩ := x_nat (n := 12) (x := x) (by omega) (by omega)
      by_cases hin : i < σ 5 0
      ·
        refine lv_aload_n hx hb dX4_personNumbered_10 rfl (lv_at hl 0 rfl) ?_
        refine x_get hx hb hts hin4 hown hW 0 0 (xg_x G0 D xa σ τ) rfl 0 (by decide) (hts (.fieldLink RX4 11 "Restitutory" "people" "[LRestitutory$Person;") (by decide +kernel)) rfl (v := .ref (xa 1 0)) (rfl) dX4_personNumbered_11 ?_
        refine lv_iload_n hx hb dX4_personNumbered_14 rfl (lv_at hl 1 rfl) ?_
        refine x_ald2 hx hb hW 1 0 0 rfl (xg_pa G0 D xa σ τ) (i) (by omega) (by omega) (v := .ref (xa 10 i)) (by show va_rf (if _ then _ else _) = _; rw [if_pos hin]; rfl) dX4_personNumbered_15 ?_
        refine lv_goto (tgt := 20) hx hb dX4_personNumbered_16 (by decide) ?_
        refine lv_astore_n (lv' := [(2, .ref (xa 10 i)), (0, .ref (xa 0 0)), (1, .int (nI (i)))]) hx hb dX4_personNumbered_20 rfl hl (by decide) rfl (fun ls hl => ?_)
        have hl : lv_has ls 3 [(0, .ref (xa 0 0)), (1, .int (nI (i))), (2, .ref (xa 10 i))] := lv_sub hl [1, 2, 0] rfl
        refine lv_aload_n hx hb dX4_personNumbered_21 rfl (lv_at hl 2 rfl) ?_
        refine lv_ifnonnull (tgt := 35) hx hb dX4_personNumbered_22 (by decide) ?_
        refine lv_aload_n hx hb dX4_personNumbered_35 rfl (lv_at hl 2 rfl) ?_
        exact ye_r hx hb hr hlocks hW ⟨i, hin, rfl, rfl, rfl⟩ (Nat.le_of_ble_eq_true rfl) (Nat.le_of_ble_eq_true rfl) dX4_personNumbered_36
      ·
        refine lv_aload_n hx hb dX4_personNumbered_10 rfl (lv_at hl 0 rfl) ?_
        refine x_get hx hb hts hin4 hown hW 0 0 (xg_x G0 D xa σ τ) rfl 0 (by decide) (hts (.fieldLink RX4 11 "Restitutory" "people" "[LRestitutory$Person;") (by decide +kernel)) rfl (v := .ref (xa 1 0)) (rfl) dX4_personNumbered_11 ?_
        refine lv_iload_n hx hb dX4_personNumbered_14 rfl (lv_at hl 1 rfl) ?_
        refine x_ald2 hx hb hW 1 0 0 rfl (xg_pa G0 D xa σ τ) (i) (by omega) (by omega) (v := .null) (by show va_rf (if _ then _ else _) = _; rw [if_neg hin]; rfl) dX4_personNumbered_15 ?_
        refine lv_goto (tgt := 20) hx hb dX4_personNumbered_16 (by decide) ?_
        refine lv_astore_nN (lv' := [(2, .null), (0, .ref (xa 0 0)), (1, .int (nI (i)))]) hx hb dX4_personNumbered_20 rfl hl (by decide) rfl (fun ls hl => ?_)
        have hl : lv_has ls 3 [(0, .ref (xa 0 0)), (1, .int (nI (i))), (2, .null)] := lv_sub hl [1, 2, 0] rfl
        refine lv_aload_nN hx hb dX4_personNumbered_21 rfl (lv_at hl 2 rfl) ?_
        refine lv_ifnonnullN hx hb dX4_personNumbered_22 ?_
        exact y_throw (cls := xIob) (text := "there is no such person") hx hb hst0 hown ce_iob (hts (.classLink RX4 157 "java/lang/IndexOutOfBoundsException") (by decide +kernel)) (hts (.initialized "java/lang/IndexOutOfBoundsException") (by decide +kernel)) (fun w h => hts w (List.mem_cons_of_mem _ (List.mem_append_right _ h))) (by decide +kernel) hW (hl.1.trans hml.symm) dX4_personNumbered_25 dX4_personNumbered_28 dX4_personNumbered_29 dX4_personNumbered_31 dX4_personNumbered_34 ⟨hout, hlocks⟩ (Nat.le_of_ble_eq_true rfl) (Nat.le_of_ble_eq_true rfl) ⟨Nat.le_of_ble_eq_true rfl, Nat.le_of_ble_eq_true rfl⟩ (⟨rfl, fun h => by unfold pP at h; (first | omega | (rw [nI_toInt (by omega)] at h; omega))⟩) ⟨Nat.le_of_ble_eq_true rfl, Nat.le_of_ble_eq_true rfl⟩

set_option maxHeartbeats 4000000 in
set_option maxRecDepth 100000 in
theorem c_X4_thingNumbered (l : Launch) (hst0 : l.stackTraces = false) (D : xD) (sa : Nat → Nat) (xa : xA) (G0 : xG) (σ : Sg) (τ : Tg) (hg : Gd σ) (hL : LL σ τ) (x : Int32) : xXr l yX4_thingNumbered wsX4_thingNumbered ({ frames := 10, cells := 1, slots := 6, locals := 200 } : Room) D sa xa (xGs G0 D xa σ τ) [.ref (xa 0 0), .int x] (fun a u => ∃ i, i < σ 12 0 ∧ x = nI i ∧ a = xa 13 i ∧ u = (xa, xGs G0 D xa σ τ)) (fun E => E = xIob ∧ ¬ pT σ x) 1 6 := by
  have hB := hg.1
  have h5 := hg.2.1.1
  have h7 := hg.2.1.2.1
  have h12 := hg.2.1.2.2.1
  have hy0 := hg.2.1.2.2.2.1
  have hy1 := hg.2.1.2.2.2.2
  have hm := hg.hm
  have hs8 := hg.hs8
  intro sz
  refine vx_ofW (cc := cX4_thingNumbered) (maxL := 3) (ret := (some (.object "Restitutory$Thing"))) (by decide +kernel) rfl ?_
  intro p e s m args below meth c s₁ B hml hout hv
  obtain ⟨rfl, hsz, hv2⟩ := hv
  subst hsz
  have hx := B.exec
  have hb := B.bytes
  have hr := B.returns
  have hts := atoms_spec (ws := wsX4_thingNumbered) B.pre
  have hown : s.vm.findClass RX4 = some m.cls := findClass_of_methodNamed B.named
  have hlocks := B.notSynchronized
  have hin4 : ∀ w ∈ wsX40, w ∈ wsX4_thingNumbered := by decide +kernel
  have hW := xW.start (s := s) ⟨rfl, hv2⟩
  clear hv2
  generalize xAw xa (xGs G0 D xa σ τ) s.heap.size = A at hW ⊢
  have hl := lv_entry ([.ref (xa 0 0), .int (x)]) (n := 3) (Nat.le_of_ble_eq_true rfl)
  rw [lg_entry_eq]
  generalize (lg_sl ([.ref (xa 0 0), .int (x)]) ++ List.replicate (3 - (lg_sl ([.ref (xa 0 0), .int (x)])).length) Slot.unset).toArray = ls at hl ⊢
  have hl : lv_has ls 3 [(0, .ref (xa 0 0)), (1, .int (x))] := hl
  refine lv_iload_n hx hb dX4_thingNumbered_0 rfl (lv_at hl 1 rfl) ?_
  refine lv_if_lt (tgt := 19) hx hb dX4_thingNumbered_1 (by decide) (fun c_1 => ?_) (fun c_1 => ?_)
  · -- lt taken
    have c_1 := Int32.lt_iff_toInt_lt.mp c_1
    rw [x_t0] at c_1
    refine lv_null hx hb dX4_thingNumbered_19 ?_
    refine lv_astore_nN (lv' := [(2, .null), (0, .ref (xa 0 0)), (1, .int (x))]) hx hb dX4_thingNumbered_20 rfl hl (by decide) rfl (fun ls hl => ?_)
    have hl : lv_has ls 3 [(0, .ref (xa 0 0)), (1, .int (x)), (2, .null)] := lv_sub hl [1, 2, 0] rfl
    refine lv_aload_nN hx hb dX4_thingNumbered_21 rfl (lv_at hl 2 rfl) ?_
    refine lv_ifnonnullN hx hb dX4_thingNumbered_22 ?_
    exact y_throw (cls := xIob) (text := "there is no such thing") hx hb hst0 hown ce_iob (hts (.classLink RX4 157 "java/lang/IndexOutOfBoundsException") (by decide +kernel)) (hts (.initialized "java/lang/IndexOutOfBoundsException") (by decide +kernel)) (fun w h => hts w (List.mem_cons_of_mem _ (List.mem_append_right _ h))) (by decide +kernel) hW (hl.1.trans hml.symm) dX4_thingNumbered_25 dX4_thingNumbered_28 dX4_thingNumbered_29 dX4_thingNumbered_31 dX4_thingNumbered_34 ⟨hout, hlocks⟩ (Nat.le_of_ble_eq_true rfl) (Nat.le_of_ble_eq_true rfl) ⟨Nat.le_of_ble_eq_true rfl, Nat.le_of_ble_eq_true rfl⟩ (⟨rfl, fun h => by unfold pT at h; (first | omega | (rw [nI_toInt (by omega)] at h; omega))⟩) ⟨Nat.le_of_ble_eq_true rfl, Nat.le_of_ble_eq_true rfl⟩
  · -- lt not
    have c_1 : ¬ ((x).toInt < ((0 : Int32)).toInt) := fun h => c_1 (Int32.lt_iff_toInt_lt.mpr h)
    rw [x_t0] at c_1
    refine lv_iload_n hx hb dX4_thingNumbered_4 rfl (lv_at hl 1 rfl) ?_
    refine lv_bipush (v := nI (10)) hx hb dX4_thingNumbered_5 (by decide +kernel) ?_
    refine lv_icmp_ge (tgt := 19) hx hb dX4_thingNumbered_7 (by decide) (fun c_7 => ?_) (fun c_7 => ?_)
    · -- ge taken
      have c_7 := Int32.le_iff_toInt_le.mp c_7
      rw [nI_toInt (n := 10) (by omega)] at c_7
      refine lv_null hx hb dX4_thingNumbered_19 ?_
      refine lv_astore_nN (lv' := [(2, .null), (0, .ref (xa 0 0)), (1, .int (x))]) hx hb dX4_thingNumbered_20 rfl hl (by decide) rfl (fun ls hl => ?_)
      have hl : lv_has ls 3 [(0, .ref (xa 0 0)), (1, .int (x)), (2, .null)] := lv_sub hl [1, 2, 0] rfl
      refine lv_aload_nN hx hb dX4_thingNumbered_21 rfl (lv_at hl 2 rfl) ?_
      refine lv_ifnonnullN hx hb dX4_thingNumbered_22 ?_
      exact y_throw (cls := xIob) (text := "there is no such thing") hx hb hst0 hown ce_iob (hts (.classLink RX4 157 "java/lang/IndexOutOfBoundsException") (by decide +kernel)) (hts (.initialized "java/lang/IndexOutOfBoundsException") (by decide +kernel)) (fun w h => hts w (List.mem_cons_of_mem _ (List.mem_append_right _ h))) (by decide +kernel) hW (hl.1.trans hml.symm) dX4_thingNumbered_25 dX4_thingNumbered_28 dX4_thingNumbered_29 dX4_thingNumbered_31 dX4_thingNumbered_34 ⟨hout, hlocks⟩ (Nat.le_of_ble_eq_true rfl) (Nat.le_of_ble_eq_true rfl) ⟨Nat.le_of_ble_eq_true rfl, Nat.le_of_ble_eq_true rfl⟩ (⟨rfl, fun h => by unfold pT at h; (first | omega | (rw [nI_toInt (by omega)] at h; omega))⟩) ⟨Nat.le_of_ble_eq_true rfl, Nat.le_of_ble_eq_true rfl⟩
    · -- ge not
      have c_7 : ¬ ((nI (10)).toInt ≤ (x).toInt) := fun h => c_7 (Int32.le_iff_toInt_le.mpr h)
      rw [nI_toInt (n := 10) (by omega)] at c_7
      obtain ⟨i, hi0, rfl⟩ := x_nat (n := 10) (x := x) (by omega) (by omega)
      by_cases hin : i < σ 12 0
      ·
        refine lv_aload_n hx hb dX4_thingNumbered_10 rfl (lv_at hl 0 rfl) ?_
        refine x_get hx hb hts hin4 hown hW 0 0 (xg_x G0 D xa σ τ) rfl 6 (by decide) (hts (.fieldLink RX4 31 "Restitutory" "things" "[LRestitutory$Thing;") (by decide +kernel)) rfl (v := .ref (xa 4 0)) (rfl) dX4_thingNumbered_11 ?_
        refine lv_iload_n hx hb dX4_thingNumbered_14 rfl (lv_at hl 1 rfl) ?_
        refine x_ald2 hx hb hW 4 0 2 rfl (xg_ta G0 D xa σ τ) (i) (by omega) (by omega) (v := .ref (xa 13 i)) (by show va_rf (if _ then _ else _) = _; rw [if_pos hin]; rfl) dX4_thingNumbered_15 ?_
        refine lv_goto (tgt := 20) hx hb dX4_thingNumbered_16 (by decide) ?_
        refine lv_astore_n (lv' := [(2, .ref (xa 13 i)), (0, .ref (xa 0 0)), (1, .int (nI (i)))]) hx hb dX4_thingNumbered_20 rfl hl (by decide) rfl (fun ls hl => ?_)
        have hl : lv_has ls 3 [(0, .ref (xa 0 0)), (1, .int (nI (i))), (2, .ref (xa 13 i))] := lv_sub hl [1, 2, 0] rfl
        refine lv_aload_n hx hb dX4_thingNumbered_21 rfl (lv_at hl 2 rfl) ?_
        refine lv_ifnonnull (tgt := 35) hx hb dX4_thingNumbered_22 (by decide) ?_
        refine lv_aload_n hx hb dX4_thingNumbered_35 rfl (lv_at hl 2 rfl) ?_
        exact ye_r hx hb hr hlocks hW ⟨i, hin, rfl, rfl, rfl⟩ (Nat.le_of_ble_eq_true rfl) (Nat.le_of_ble_eq_true rfl) dX4_thingNumbered_36
      ·
        refine lv_aload_n hx hb dX4_thingNumbered_10 rfl (lv_at hl 0 rfl) ?_
        refine x_get hx hb hts hin4 hown hW 0 0 (xg_x G0 D xa σ τ) rfl 6 (by decide) (hts (.fieldLink RX4 31 "Restitutory" "things" "[LRestitutory$Thing;") (by decide +kernel)) rfl (v := .ref (xa 4 0)) (rfl) dX4_thingNumbered_11 ?_
        refine lv_iload_n hx hb dX4_thingNumbered_14 rfl (lv_at hl 1 rfl) ?_
        refine x_ald2 hx hb hW 4 0 2 rfl (xg_ta G0 D xa σ τ) (i) (by omega) (by omega) (v := .null) (by show va_rf (if _ then _ else _) = _; rw [if_neg hin]; rfl) dX4_thingNumbered_15 ?_
        refine lv_goto (tgt := 20) hx hb dX4_thingNumbered_16 (by decide) ?_
        refine lv_astore_nN (lv' := [(2, .null), (0, .ref (xa 0 0)), (1, .int (nI (i)))]) hx hb dX4_thingNumbered_20 rfl hl (by decide) rfl (fun ls hl => ?_)
        have hl : lv_has ls 3 [(0, .ref (xa 0 0)), (1, .int (nI (i))), (2, .null)] := lv_sub hl [1, 2, 0] rfl
        refine lv_aload_nN hx hb dX4_thingNumbered_21 rfl (lv_at hl 2 rfl) ?_
        refine lv_ifnonnullN hx hb dX4_thingNumbered_22 ?_
        exact y_throw (cls := xIob) (text := "there is no such thing") hx hb hst0 hown ce_iob (hts (.classLink RX4 157 "java/lang/IndexOutOfBoundsException") (by decide +kernel)) (hts (.initialized "java/lang/IndexOutOfBoundsException") (by decide +kernel)) (fun w h => hts w (List.mem_cons_of_mem _ (List.mem_append_right _ h))) (by decide +kernel) hW (hl.1.trans hml.symm) dX4_thingNumbered_25 dX4_thingNumbered_28 dX4_thingNumbered_29 dX4_thingNumbered_31 dX4_thingNumbered_34 ⟨hout, hlocks⟩ (Nat.le_of_ble_eq_true rfl) (Nat.le_of_ble_eq_true rfl) ⟨Nat.le_of_ble_eq_true rfl, Nat.le_of_ble_eq_true rfl⟩ (⟨rfl, fun h => by unfold pT at h; (first | omega | (rw [nI_toInt (by omega)] at h; omega))⟩) ⟨Nat.le_of_ble_eq_true rfl, Nat.le_of_ble_eq_true rfl⟩

set_option maxHeartbeats 4000000 in
set_option maxRecDepth 100000 in
theorem c_X4_stationNumbered (l : Launch) (hst0 : l.stackTraces = false) (D : xD) (sa : Nat → Nat) (xa : xA) (G0 : xG) (σ : Sg) (τ : Tg) (hg : Gd σ) (hL : LL σ τ) (t x : Int32) : xXr l yX4_stationNumbered wsX4_stationNumbered ({ frames := 12, cells := 2, slots := 12, locals := 300 } : Room) D sa xa (xGs G0 D xa σ τ) [.ref (xa 0 0), .int t, .int x] (fun a u => ∃ i k, i < σ 12 0 ∧ k < σ 11 i ∧ t = nI i ∧ x = nI k ∧ a = xa 15 (8 * i + k) ∧ u = (xa, xGs G0 D xa σ τ)) (fun E => E = xIob ∧ ¬ pS σ t x) 2 12 := by
  have hB := hg.1
  have h5 := hg.2.1.1
  have h7 := hg.2.1.2.1
  have h12 := hg.2.1.2.2.1
  have hy0 := hg.2.1.2.2.2.1
  have hy1 := hg.2.1.2.2.2.2
  have hm := hg.hm
  have hs8 := hg.hs8
  intro sz
  refine vx_ofW (cc := cX4_stationNumbered) (maxL := 5) (ret := (some (.object "Restitutory$Station"))) (by decide +kernel) rfl ?_
  intro p e s m args below meth c s₁ B hml hout hv
  obtain ⟨rfl, hsz, hv2⟩ := hv
  subst hsz
  have hx := B.exec
  have hb := B.bytes
  have hr := B.returns
  have hts := atoms_spec (ws := wsX4_stationNumbered) B.pre
  have hown : s.vm.findClass RX4 = some m.cls := findClass_of_methodNamed B.named
  have hlocks := B.notSynchronized
  have hin3 : ∀ w ∈ wsX30, w ∈ wsX4_stationNumbered := by decide +kernel
  have hin4 : ∀ w ∈ wsX40, w ∈ wsX4_stationNumbered := by decide +kernel
  have hW := xW.start (s := s) ⟨rfl, hv2⟩
  clear hv2
  generalize xAw xa (xGs G0 D xa σ τ) s.heap.size = A at hW ⊢
  have hl := lv_entry ([.ref (xa 0 0), .int (t), .int (x)]) (n := 5) (Nat.le_of_ble_eq_true rfl)
  rw [lg_entry_eq]
  generalize (lg_sl ([.ref (xa 0 0), .int (t), .int (x)]) ++ List.replicate (5 - (lg_sl ([.ref (xa 0 0), .int (t), .int (x)])).length) Slot.unset).toArray = ls at hl ⊢
  have hl : lv_has ls 5 [(0, .ref (xa 0 0)), (1, .int (t)), (2, .int (x))] := hl
  refine lv_aload_n hx hb dX4_stationNumbered_0 rfl (lv_at hl 0 rfl) ?_
  refine lv_iload_n hx hb dX4_stationNumbered_1 rfl (lv_at hl 1 rfl) ?_
  refine yv_r (k := 0) (i := 0) (As := [.int (t)]) (rest := []) ⟨hx, hb, hml, hown, hts⟩ (c_X4_thingNumbered l hst0 D sa xa G0 σ τ hg hL t) (cwV 1 hts gX4_stationNumbered_X4_thingNumbered rfl rfl rfl (by decide +kernel) ⟨Nat.le_of_ble_eq_true rfl, Nat.le_of_ble_eq_true rfl⟩) ⟨hout, hlocks⟩ (fun E h => ⟨h.1, fun h2 => h.2 h2.1⟩) ⟨Nat.le_of_ble_eq_true rfl, Nat.le_of_ble_eq_true rfl⟩ hW (xg_x G0 D xa σ τ) rfl rfl rfl rfl hl.1 (Nat.le_of_ble_eq_true rfl) dX4_stationNumbered_2 ⟨Nat.le_of_ble_eq_true rfl, Nat.le_of_ble_eq_true rfl⟩ (fun r_2 xa1 G1 H locs hp hW => ?_)
  obtain ⟨ti, hti, rfl, ha_2, hu⟩ := hp
  cases hu
  subst ha_2
  refine lv_astore_n (lv' := [(3, .ref (xa 13 ti)), (0, .ref (xa 0 0)), (1, .int (nI (ti))), (2, .int (x))]) hx hb dX4_stationNumbered_5 rfl hl (by decide) rfl (fun ls hl => ?_)
  have hl : lv_has ls 5 [(0, .ref (xa 0 0)), (1, .int (nI (ti))), (2, .int (x)), (3, .ref (xa 13 ti))] := lv_sub hl [1, 2, 3, 0] rfl
  refine lv_iload_n hx hb dX4_stationNumbered_6 rfl (lv_at hl 2 rfl) ?_
  refine lv_if_lt (tgt := 25) hx hb dX4_stationNumbered_7 (by decide) (fun c_7 => ?_) (fun c_7 => ?_)
  · -- lt taken
    have c_7 := Int32.lt_iff_toInt_lt.mp c_7
    rw [x_t0] at c_7
    refine lv_null hx hb dX4_stationNumbered_25 ?_
    refine lv_astoreN (lv' := [(4, .null), (0, .ref (xa 0 0)), (1, .int (nI (ti))), (2, .int (x)), (3, .ref (xa 13 ti))]) hx hb dX4_stationNumbered_26 hl (by decide) rfl (fun ls hl => ?_)
    have hl : lv_has ls 5 [(0, .ref (xa 0 0)), (1, .int (nI (ti))), (2, .int (x)), (3, .ref (xa 13 ti)), (4, .null)] := lv_sub hl [1, 2, 3, 4, 0] rfl
    refine lv_aloadN hx hb dX4_stationNumbered_28 (lv_at hl 4 rfl) ?_
    refine lv_ifnonnullN hx hb dX4_stationNumbered_30 ?_
    exact y_throw (cls := xIob) (text := "there is no such station") hx hb hst0 hown ce_iob (hts (.classLink RX4 157 "java/lang/IndexOutOfBoundsException") (by decide +kernel)) (hts (.initialized "java/lang/IndexOutOfBoundsException") (by decide +kernel)) (fun w h => hts w (List.mem_cons_of_mem _ (List.mem_append_right _ h))) (by decide +kernel) hW (hl.1.trans hml.symm) dX4_stationNumbered_33 dX4_stationNumbered_36 dX4_stationNumbered_37 dX4_stationNumbered_39 dX4_stationNumbered_42 ⟨hout, hlocks⟩ (Nat.le_of_ble_eq_true rfl) (Nat.le_of_ble_eq_true rfl) ⟨Nat.le_of_ble_eq_true rfl, Nat.le_of_ble_eq_true rfl⟩ (⟨rfl, fun h => by have h2 := h.2; rw [xn_nI (by omega)] at h2; have h8 := hs8 ti; (first | omega | (rw [nI_toInt (by omega)] at h2; omega))⟩) ⟨Nat.le_of_ble_eq_true rfl, Nat.le_of_ble_eq_true rfl⟩
  · -- lt not
    have c_7 : ¬ ((x).toInt < ((0 : Int32)).toInt) := fun h => c_7 (Int32.lt_iff_toInt_lt.mpr h)
    rw [x_t0] at c_7
    refine lv_iload_n hx hb dX4_stationNumbered_10 rfl (lv_at hl 2 rfl) ?_
    refine lv_bipush (v := nI (8)) hx hb dX4_stationNumbered_11 (by decide +kernel) ?_
    refine lv_icmp_ge (tgt := 25) hx hb dX4_stationNumbered_13 (by decide) (fun c_13 => ?_) (fun c_13 => ?_)
    · -- ge taken
      have c_13 := Int32.le_iff_toInt_le.mp c_13
      rw [nI_toInt (n := 8) (by omega)] at c_13
      refine lv_null hx hb dX4_stationNumbered_25 ?_
      refine lv_astoreN (lv' := [(4, .null), (0, .ref (xa 0 0)), (1, .int (nI (ti))), (2, .int (x)), (3, .ref (xa 13 ti))]) hx hb dX4_stationNumbered_26 hl (by decide) rfl (fun ls hl => ?_)
      have hl : lv_has ls 5 [(0, .ref (xa 0 0)), (1, .int (nI (ti))), (2, .int (x)), (3, .ref (xa 13 ti)), (4, .null)] := lv_sub hl [1, 2, 3, 4, 0] rfl
      refine lv_aloadN hx hb dX4_stationNumbered_28 (lv_at hl 4 rfl) ?_
      refine lv_ifnonnullN hx hb dX4_stationNumbered_30 ?_
      exact y_throw (cls := xIob) (text := "there is no such station") hx hb hst0 hown ce_iob (hts (.classLink RX4 157 "java/lang/IndexOutOfBoundsException") (by decide +kernel)) (hts (.initialized "java/lang/IndexOutOfBoundsException") (by decide +kernel)) (fun w h => hts w (List.mem_cons_of_mem _ (List.mem_append_right _ h))) (by decide +kernel) hW (hl.1.trans hml.symm) dX4_stationNumbered_33 dX4_stationNumbered_36 dX4_stationNumbered_37 dX4_stationNumbered_39 dX4_stationNumbered_42 ⟨hout, hlocks⟩ (Nat.le_of_ble_eq_true rfl) (Nat.le_of_ble_eq_true rfl) ⟨Nat.le_of_ble_eq_true rfl, Nat.le_of_ble_eq_true rfl⟩ (⟨rfl, fun h => by have h2 := h.2; rw [xn_nI (by omega)] at h2; have h8 := hs8 ti; (first | omega | (rw [nI_toInt (by omega)] at h2; omega))⟩) ⟨Nat.le_of_ble_eq_true rfl, Nat.le_of_ble_eq_true rfl⟩
    · -- ge not
      have c_13 : ¬ ((nI (8)).toInt ≤ (x).toInt) := fun h => c_13 (Int32.le_iff_toInt_le.mpr h)
      rw [nI_toInt (n := 8) (by omega)] at c_13
      obtain ⟨k, hk0, rfl⟩ := x_nat (n := 8) (x := x) (by omega) (by omega)
      by_cases hin : k < σ 11 ti
      ·
        refine lv_aload_n hx hb dX4_stationNumbered_16 rfl (lv_at hl 3 rfl) ?_
        refine x_get hx hb hts hin3 hown hW 13 ti (xg_t G0 D xa σ τ (i := ti) (by omega)) rfl 2 (by decide) (hts (.fieldLink RX4 118 "Restitutory$Thing" "stations" "[LRestitutory$Station;") (by decide +kernel)) rfl (v := .ref (xa 14 ti)) (rfl) dX4_stationNumbered_17 ?_
        refine lv_iload_n hx hb dX4_stationNumbered_20 rfl (lv_at hl 2 rfl) ?_
        refine x_ald2 hx hb hW 14 ti 3 rfl (xg_sa G0 D xa σ τ (i := ti) (by omega)) (k) (by omega) (by omega) (v := .ref (xa 15 (8 * ti + k))) (by show va_rf (if _ then _ else _) = _; rw [if_pos hin]; rfl) dX4_stationNumbered_21 ?_
        refine lv_goto (tgt := 26) hx hb dX4_stationNumbered_22 (by decide) ?_
        refine lv_astore (lv' := [(4, .ref (xa 15 (8 * ti + k))), (0, .ref (xa 0 0)), (1, .int (nI (ti))), (2, .int (nI (k))), (3, .ref (xa 13 ti))]) hx hb dX4_stationNumbered_26 hl (by decide) rfl (fun ls hl => ?_)
        have hl : lv_has ls 5 [(0, .ref (xa 0 0)), (1, .int (nI (ti))), (2, .int (nI (k))), (3, .ref (xa 13 ti)), (4, .ref (xa 15 (8 * ti + k)))] := lv_sub hl [1, 2, 3, 4, 0] rfl
        refine lv_aload hx hb dX4_stationNumbered_28 (lv_at hl 4 rfl) ?_
        refine lv_ifnonnull (tgt := 43) hx hb dX4_stationNumbered_30 (by decide) ?_
        refine lv_aload hx hb dX4_stationNumbered_43 (lv_at hl 4 rfl) ?_
        exact ye_r hx hb hr hlocks hW ⟨ti, k, hti, hin, rfl, rfl, rfl, rfl⟩ (Nat.le_of_ble_eq_true rfl) (Nat.le_of_ble_eq_true rfl) dX4_stationNumbered_45
      ·
        refine lv_aload_n hx hb dX4_stationNumbered_16 rfl (lv_at hl 3 rfl) ?_
        refine x_get hx hb hts hin3 hown hW 13 ti (xg_t G0 D xa σ τ (i := ti) (by omega)) rfl 2 (by decide) (hts (.fieldLink RX4 118 "Restitutory$Thing" "stations" "[LRestitutory$Station;") (by decide +kernel)) rfl (v := .ref (xa 14 ti)) (rfl) dX4_stationNumbered_17 ?_
        refine lv_iload_n hx hb dX4_stationNumbered_20 rfl (lv_at hl 2 rfl) ?_
        refine x_ald2 hx hb hW 14 ti 3 rfl (xg_sa G0 D xa σ τ (i := ti) (by omega)) (k) (by omega) (by omega) (v := .null) (by show va_rf (if _ then _ else _) = _; rw [if_neg hin]; rfl) dX4_stationNumbered_21 ?_
        refine lv_goto (tgt := 26) hx hb dX4_stationNumbered_22 (by decide) ?_
        refine lv_astoreN (lv' := [(4, .null), (0, .ref (xa 0 0)), (1, .int (nI (ti))), (2, .int (nI (k))), (3, .ref (xa 13 ti))]) hx hb dX4_stationNumbered_26 hl (by decide) rfl (fun ls hl => ?_)
        have hl : lv_has ls 5 [(0, .ref (xa 0 0)), (1, .int (nI (ti))), (2, .int (nI (k))), (3, .ref (xa 13 ti)), (4, .null)] := lv_sub hl [1, 2, 3, 4, 0] rfl
        refine lv_aloadN hx hb dX4_stationNumbered_28 (lv_at hl 4 rfl) ?_
        refine lv_ifnonnullN hx hb dX4_stationNumbered_30 ?_
        exact y_throw (cls := xIob) (text := "there is no such station") hx hb hst0 hown ce_iob (hts (.classLink RX4 157 "java/lang/IndexOutOfBoundsException") (by decide +kernel)) (hts (.initialized "java/lang/IndexOutOfBoundsException") (by decide +kernel)) (fun w h => hts w (List.mem_cons_of_mem _ (List.mem_append_right _ h))) (by decide +kernel) hW (hl.1.trans hml.symm) dX4_stationNumbered_33 dX4_stationNumbered_36 dX4_stationNumbered_37 dX4_stationNumbered_39 dX4_stationNumbered_42 ⟨hout, hlocks⟩ (Nat.le_of_ble_eq_true rfl) (Nat.le_of_ble_eq_true rfl) ⟨Nat.le_of_ble_eq_true rfl, Nat.le_of_ble_eq_true rfl⟩ (⟨rfl, fun h => by have h2 := h.2; rw [xn_nI (by omega)] at h2; have h8 := hs8 ti; (first | omega | (rw [nI_toInt (by omega)] at h2; omega))⟩) ⟨Nat.le_of_ble_eq_true rfl, Nat.le_of_ble_eq_true rfl⟩

set_option maxHeartbeats 4000000 in
set_option maxRecDepth 100000 in
theorem c_X4_numberOf_n (l : Launch) (D : xD) (sa : Nat → Nat) (xa : xA) (G0 : xG) (σ : Sg) (τ : Tg) (hg : Gd σ)  : xCi l yX4_numberOf wsX4_numberOf ({ frames := 10, cells := 0, slots := 0, locals := 200 } : Room) D sa xa (xGs G0 D xa σ τ) [.null] (fun r u => u = (xa, xGs G0 D xa σ τ) ∧ r = -1) 0 0 := by
  have hB := hg.1
  have h5 := hg.2.1.1
  have h7 := hg.2.1.2.1
  have h12 := hg.2.1.2.2.1
  have hy0 := hg.2.1.2.2.2.1
  have hy1 := hg.2.1.2.2.2.2
  have hm := hg.hm
  have hs8 := hg.hs8
  intro sz
  refine Met.ofW (cc := cX4_numberOf) (maxL := 1) (ret := (some .int)) (by decide +kernel) rfl ?_
  intro p e s m args below meth c s₁ B hml hv
  obtain ⟨rfl, hsz, hv2⟩ := hv
  subst hsz
  have hx := B.exec
  have hb := B.bytes
  have hr := B.returns
  have hts := atoms_spec (ws := wsX4_numberOf) B.pre
  have hown : s.vm.findClass RX4 = some m.cls := findClass_of_methodNamed B.named
  have hlocks := B.notSynchronized
  have hin1 : ∀ w ∈ wsX10, w ∈ wsX4_numberOf := by decide +kernel
  have hW := xW.start (s := s) ⟨rfl, hv2⟩
  clear hv2
  generalize xAw xa (xGs G0 D xa σ τ) s.heap.size = A at hW ⊢
  have hl := lv_entry ([.null]) (n := 1) (Nat.le_of_ble_eq_true rfl)
  rw [lg_entry_eq]
  generalize (lg_sl ([.null]) ++ List.replicate (1 - (lg_sl ([.null])).length) Slot.unset).toArray = ls at hl ⊢
  have hl : lv_has ls 1 [(0, .null)] := hl
  refine lv_aload_nN hx hb dX4_numberOf_0 rfl (lv_at hl 0 rfl) ?_
  refine lv_ifnonnullN hx hb dX4_numberOf_1 ?_
  refine lv_iconst (v := -1) hx hb dX4_numberOf_4 (by decide +kernel) ?_
  refine lv_goto (tgt := 12) hx hb dX4_numberOf_5 (by decide) ?_
  exact xe_i hx hb hr rfl hlocks hW ⟨rfl, rfl⟩ (Nat.le_of_ble_eq_true rfl) (Nat.le_of_ble_eq_true rfl) dX4_numberOf_12

set_option maxHeartbeats 4000000 in
set_option maxRecDepth 100000 in
theorem c_X4_numberOf_s (l : Launch) (D : xD) (sa : Nat → Nat) (xa : xA) (G0 : xG) (σ : Sg) (τ : Tg) (hg : Gd σ) (i : Nat) (hi : i < σ 5 0) : xCi l yX4_numberOf wsX4_numberOf ({ frames := 10, cells := 0, slots := 0, locals := 200 } : Room) D sa xa (xGs G0 D xa σ τ) [.ref (xa 10 i)] (fun r u => u = (xa, xGs G0 D xa σ τ) ∧ r = nI i) 0 0 := by
  have hB := hg.1
  have h5 := hg.2.1.1
  have h7 := hg.2.1.2.1
  have h12 := hg.2.1.2.2.1
  have hy0 := hg.2.1.2.2.2.1
  have hy1 := hg.2.1.2.2.2.2
  have hm := hg.hm
  have hs8 := hg.hs8
  intro sz
  refine Met.ofW (cc := cX4_numberOf) (maxL := 1) (ret := (some .int)) (by decide +kernel) rfl ?_
  intro p e s m args below meth c s₁ B hml hv
  obtain ⟨rfl, hsz, hv2⟩ := hv
  subst hsz
  have hx := B.exec
  have hb := B.bytes
  have hr := B.returns
  have hts := atoms_spec (ws := wsX4_numberOf) B.pre
  have hown : s.vm.findClass RX4 = some m.cls := findClass_of_methodNamed B.named
  have hlocks := B.notSynchronized
  have hin1 : ∀ w ∈ wsX10, w ∈ wsX4_numberOf := by decide +kernel
  have hW := xW.start (s := s) ⟨rfl, hv2⟩
  clear hv2
  generalize xAw xa (xGs G0 D xa σ τ) s.heap.size = A at hW ⊢
  have hl := lv_entry ([.ref (xa 10 i)]) (n := 1) (Nat.le_of_ble_eq_true rfl)
  rw [lg_entry_eq]
  generalize (lg_sl ([.ref (xa 10 i)]) ++ List.replicate (1 - (lg_sl ([.ref (xa 10 i)])).length) Slot.unset).toArray = ls at hl ⊢
  have hl : lv_has ls 1 [(0, .ref (xa 10 i))] := hl
  refine lv_aload_n hx hb dX4_numberOf_0 rfl (lv_at hl 0 rfl) ?_
  refine lv_ifnonnull (tgt := 8) hx hb dX4_numberOf_1 (by decide) ?_
  refine lv_aload_n hx hb dX4_numberOf_8 rfl (lv_at hl 0 rfl) ?_
  refine x_get hx hb hts hin1 hown hW 10 i (xg_p G0 D xa σ τ (i := i) (by omega)) rfl 0 (by decide) (hts (.fieldLink RX4 202 "Restitutory$Person" "number" "I") (by decide +kernel)) rfl (v := .int (nI (i))) (rfl) dX4_numberOf_9 ?_
  exact xe_i hx hb hr rfl hlocks hW ⟨rfl, rfl⟩ (Nat.le_of_ble_eq_true rfl) (Nat.le_of_ble_eq_true rfl) dX4_numberOf_12

theorem c_X4_numberOf (l : Launch) (D : xD) (sa : Nat → Nat) (xa : xA) (G0 : xG) (σ : Sg) (τ : Tg) (hg : Gd σ) (o : Option Nat) (ho : ∀ i, o = some i → i < σ 5 0) : xCi l yX4_numberOf wsX4_numberOf ({ frames := 10, cells := 0, slots := 0, locals := 200 } : Room) D sa xa (xGs G0 D xa σ τ) [va_rf (o.map (xa 10))] (fun r u => u = (xa, xGs G0 D xa σ τ) ∧ r = oi o) 0 0 := by
  cases o with
  | none => exact c_X4_numberOf_n l D sa xa G0 σ τ hg
  | some i => exact c_X4_numberOf_s l D sa xa G0 σ τ hg i (ho i rfl)

set_option maxHeartbeats 4000000 in
set_option maxRecDepth 100000 in
theorem c_X0_strikes (l : Launch) (D : xD) (sa : Nat → Nat) (xa : xA) (G0 : xG) (σ : Sg) (τ : Tg) (hg : Gd σ) (k g a y : Nat) (hk : k < σ 7 0) (hgg : g < 65536) (haa : a < 65536) (hyy : y < 65536) : xCi l yX0_strikes wsX0_strikes ({ frames := 10, cells := 0, slots := 0, locals := 200 } : Room) D sa xa (xGs G0 D xa σ τ) [.ref (xa 12 k), .int (nI g), .int (nI a), .int (nI y)] (fun r u => u = (xa, xGs G0 D xa σ τ) ∧ tv r (σ 6 (4 * k) = g ∧ σ 6 (4 * k + 1) = a ∧ σ 6 (4 * k + 2) ≤ y ∧ y ≤ σ 6 (4 * k + 3))) 0 0 := by
  have hB := hg.1
  have h5 := hg.2.1.1
  have h7 := hg.2.1.2.1
  have h12 := hg.2.1.2.2.1
  have hy0 := hg.2.1.2.2.2.1
  have hy1 := hg.2.1.2.2.2.2
  have hm := hg.hm
  have hs8 := hg.hs8
  intro sz
  refine Met.ofW (cc := cX0_strikes) (maxL := 4) (ret := (some .boolean)) (by decide +kernel) rfl ?_
  intro p e s m args below meth c s₁ B hml hv
  obtain ⟨rfl, hsz, hv2⟩ := hv
  subst hsz
  have hx := B.exec
  have hb := B.bytes
  have hr := B.returns
  have hts := atoms_spec (ws := wsX0_strikes) B.pre
  have hown : s.vm.findClass RX0 = some m.cls := findClass_of_methodNamed B.named
  have hlocks := B.notSynchronized
  have hin0 : ∀ w ∈ wsX00, w ∈ wsX0_strikes := by decide +kernel
  have hW := xW.start (s := s) ⟨rfl, hv2⟩
  clear hv2
  generalize xAw xa (xGs G0 D xa σ τ) s.heap.size = A at hW ⊢
  have hl := lv_entry ([.ref (xa 12 k), .int (nI (g)), .int (nI (a)), .int (nI (y))]) (n := 4) (Nat.le_of_ble_eq_true rfl)
  rw [lg_entry_eq]
  generalize (lg_sl ([.ref (xa 12 k), .int (nI (g)), .int (nI (a)), .int (nI (y))]) ++ List.replicate (4 - (lg_sl ([.ref (xa 12 k), .int (nI (g)), .int (nI (a)), .int (nI (y))])).length) Slot.unset).toArray = ls at hl ⊢
  have hl : lv_has ls 4 [(0, .ref (xa 12 k)), (1, .int (nI (g))), (2, .int (nI (a))), (3, .int (nI (y)))] := hl
  refine lv_aload_n hx hb dX0_strikes_0 rfl (lv_at hl 0 rfl) ?_
  refine x_get hx hb hts hin0 hown hW 12 k (xg_e G0 D xa σ τ (i := k) (by omega)) rfl 0 (by decide) (hts (.fieldLink RX0 7 "Restitutory$Persecution" "group" "I") (by decide +kernel)) rfl (v := .int (nI (σ 6 (4 * k)))) (rfl) dX0_strikes_1 ?_
  have b_1 := hB 6 (4 * k)
  refine lv_iload_n hx hb dX0_strikes_4 rfl (lv_at hl 1 rfl) ?_
  refine lv_icmp_ne (tgt := 36) hx hb dX0_strikes_5 (by decide) (fun c_5 => ?_) (fun c_5 => ?_)
  · -- ne taken
    have c_5 : ¬ (σ 6 (4 * k) = g) := fun h_ => c_5 ((x_eqN (a := σ 6 (4 * k)) (b := g) (by omega) (by omega)).mpr h_)
    refine lv_iconst (v := nI (0)) hx hb dX0_strikes_36 (by decide +kernel) ?_
    exact xe_i hx hb hr rfl hlocks hW ⟨rfl, tv.zero (fun h => c_5 h.1)⟩ (Nat.le_of_ble_eq_true rfl) (Nat.le_of_ble_eq_true rfl) dX0_strikes_37
  · -- ne not
    have c_5 := (x_eqN (a := σ 6 (4 * k)) (b := g) (by omega) (by omega)).mp c_5
    refine lv_aload_n hx hb dX0_strikes_8 rfl (lv_at hl 0 rfl) ?_
    refine x_get hx hb hts hin0 hown hW 12 k (xg_e G0 D xa σ τ (i := k) (by omega)) rfl 1 (by decide) (hts (.fieldLink RX0 13 "Restitutory$Persecution" "land" "I") (by decide +kernel)) rfl (v := .int (nI (σ 6 (4 * k + 1)))) (rfl) dX0_strikes_9 ?_
    have b_9 := hB 6 (4 * k + 1)
    refine lv_iload_n hx hb dX0_strikes_12 rfl (lv_at hl 2 rfl) ?_
    refine lv_icmp_ne (tgt := 36) hx hb dX0_strikes_13 (by decide) (fun c_13 => ?_) (fun c_13 => ?_)
    · -- ne taken
      have c_13 : ¬ (σ 6 (4 * k + 1) = a) := fun h_ => c_13 ((x_eqN (a := σ 6 (4 * k + 1)) (b := a) (by omega) (by omega)).mpr h_)
      refine lv_iconst (v := nI (0)) hx hb dX0_strikes_36 (by decide +kernel) ?_
      exact xe_i hx hb hr rfl hlocks hW ⟨rfl, tv.zero (fun h => c_13 h.2.1)⟩ (Nat.le_of_ble_eq_true rfl) (Nat.le_of_ble_eq_true rfl) dX0_strikes_37
    · -- ne not
      have c_13 := (x_eqN (a := σ 6 (4 * k + 1)) (b := a) (by omega) (by omega)).mp c_13
      refine lv_aload_n hx hb dX0_strikes_16 rfl (lv_at hl 0 rfl) ?_
      refine x_get hx hb hts hin0 hown hW 12 k (xg_e G0 D xa σ τ (i := k) (by omega)) rfl 2 (by decide) (hts (.fieldLink RX0 16 "Restitutory$Persecution" "from" "I") (by decide +kernel)) rfl (v := .int (nI (σ 6 (4 * k + 2)))) (rfl) dX0_strikes_17 ?_
      have b_17 := hB 6 (4 * k + 2)
      refine lv_iload_n hx hb dX0_strikes_20 rfl (lv_at hl 3 rfl) ?_
      refine lv_icmp_gt (tgt := 36) hx hb dX0_strikes_21 (by decide) (fun c_21 => ?_) (fun c_21 => ?_)
      · -- gt taken
        have c_21 := Int32.lt_iff_toInt_lt.mp c_21
        rw [nI_toInt (n := σ 6 (4 * k + 2)) (by omega)] at c_21
        rw [nI_toInt (n := y) (by omega)] at c_21
        refine lv_iconst (v := nI (0)) hx hb dX0_strikes_36 (by decide +kernel) ?_
        exact xe_i hx hb hr rfl hlocks hW ⟨rfl, tv.zero (fun h => by omega)⟩ (Nat.le_of_ble_eq_true rfl) (Nat.le_of_ble_eq_true rfl) dX0_strikes_37
      · -- gt not
        have c_21 : ¬ ((nI (y)).toInt < (nI (σ 6 (4 * k + 2))).toInt) := fun h => c_21 (Int32.lt_iff_toInt_lt.mpr h)
        rw [nI_toInt (n := σ 6 (4 * k + 2)) (by omega)] at c_21
        rw [nI_toInt (n := y) (by omega)] at c_21
        refine lv_iload_n hx hb dX0_strikes_24 rfl (lv_at hl 3 rfl) ?_
        refine lv_aload_n hx hb dX0_strikes_25 rfl (lv_at hl 0 rfl) ?_
        refine x_get hx hb hts hin0 hown hW 12 k (xg_e G0 D xa σ τ (i := k) (by omega)) rfl 3 (by decide) (hts (.fieldLink RX0 19 "Restitutory$Persecution" "to" "I") (by decide +kernel)) rfl (v := .int (nI (σ 6 (4 * k + 3)))) (rfl) dX0_strikes_26 ?_
        have b_26 := hB 6 (4 * k + 3)
        refine lv_icmp_gt (tgt := 36) hx hb dX0_strikes_29 (by decide) (fun c_29 => ?_) (fun c_29 => ?_)
        · -- gt taken
          have c_29 := Int32.lt_iff_toInt_lt.mp c_29
          rw [nI_toInt (n := y) (by omega)] at c_29
          rw [nI_toInt (n := σ 6 (4 * k + 3)) (by omega)] at c_29
          refine lv_iconst (v := nI (0)) hx hb dX0_strikes_36 (by decide +kernel) ?_
          exact xe_i hx hb hr rfl hlocks hW ⟨rfl, tv.zero (fun h => by omega)⟩ (Nat.le_of_ble_eq_true rfl) (Nat.le_of_ble_eq_true rfl) dX0_strikes_37
        · -- gt not
          have c_29 : ¬ ((nI (σ 6 (4 * k + 3))).toInt < (nI (y)).toInt) := fun h => c_29 (Int32.lt_iff_toInt_lt.mpr h)
          rw [nI_toInt (n := y) (by omega)] at c_29
          rw [nI_toInt (n := σ 6 (4 * k + 3)) (by omega)] at c_29
          refine lv_iconst (v := nI (1)) hx hb dX0_strikes_32 (by decide +kernel) ?_
          refine lv_goto (tgt := 37) hx hb dX0_strikes_33 (by decide) ?_
          exact xe_i hx hb hr rfl hlocks hW ⟨rfl, tv.one ⟨c_5, c_13, by omega, by omega⟩⟩ (Nat.le_of_ble_eq_true rfl) (Nat.le_of_ble_eq_true rfl) dX0_strikes_37

set_option maxHeartbeats 4000000 in
set_option maxRecDepth 100000 in
theorem c_X4_isDarkFor (l : Launch) (D : xD) (sa : Nat → Nat) (xa : xA) (G0 : xG) (σ : Sg) (τ : Tg) (hg : Gd σ) (i a y : Nat) (hi : i < σ 5 0) (haa : a < 65536) (hyy : y < 65536) : xCi l yX4_isDarkFor wsX4_isDarkFor ({ frames := 12, cells := 0, slots := 0, locals := 300 } : Room) D sa xa (xGs G0 D xa σ τ) [.ref (xa 0 0), .ref (xa 10 i), .int (nI a), .int (nI y)] (fun r u => u = (xa, xGs G0 D xa σ τ) ∧ tv r (sPers σ (σ 1 i) a y)) 0 0 := by
  have hB := hg.1
  have h5 := hg.2.1.1
  have h7 := hg.2.1.2.1
  have h12 := hg.2.1.2.2.1
  have hy0 := hg.2.1.2.2.2.1
  have hy1 := hg.2.1.2.2.2.2
  have hm := hg.hm
  have hs8 := hg.hs8
  intro sz
  refine Met.ofW (cc := cX4_isDarkFor) (maxL := 8) (ret := (some .boolean)) (by decide +kernel) rfl ?_
  intro p e s m args below meth c s₁ B hml hv
  obtain ⟨rfl, hsz, hv2⟩ := hv
  subst hsz
  have hx := B.exec
  have hb := B.bytes
  have hr := B.returns
  have hts := atoms_spec (ws := wsX4_isDarkFor) B.pre
  have hown : s.vm.findClass RX4 = some m.cls := findClass_of_methodNamed B.named
  have hlocks := B.notSynchronized
  have hin4 : ∀ w ∈ wsX40, w ∈ wsX4_isDarkFor := by decide +kernel
  have hin1 : ∀ w ∈ wsX10, w ∈ wsX4_isDarkFor := by decide +kernel
  have hin0 : ∀ w ∈ wsX00, w ∈ wsX4_isDarkFor := by decide +kernel
  have hW := xW.start (s := s) ⟨rfl, hv2⟩
  clear hv2
  generalize xAw xa (xGs G0 D xa σ τ) s.heap.size = A at hW ⊢
  have hl := lv_entry ([.ref (xa 0 0), .ref (xa 10 i), .int (nI (a)), .int (nI (y))]) (n := 8) (Nat.le_of_ble_eq_true rfl)
  rw [lg_entry_eq]
  generalize (lg_sl ([.ref (xa 0 0), .ref (xa 10 i), .int (nI (a)), .int (nI (y))]) ++ List.replicate (8 - (lg_sl ([.ref (xa 0 0), .ref (xa 10 i), .int (nI (a)), .int (nI (y))])).length) Slot.unset).toArray = ls at hl ⊢
  have hl : lv_has ls 8 [(0, .ref (xa 0 0)), (1, .ref (xa 10 i)), (2, .int (nI (a))), (3, .int (nI (y)))] := hl
  refine lv_aload_n hx hb dX4_isDarkFor_0 rfl (lv_at hl 0 rfl) ?_
  refine x_get hx hb hts hin4 hown hW 0 0 (xg_x G0 D xa σ τ) rfl 2 (by decide) (hts (.fieldLink RX4 17 "Restitutory" "persecutions" "[LRestitutory$Persecution;") (by decide +kernel)) rfl (v := .ref (xa 2 0)) (rfl) dX4_isDarkFor_1 ?_
  refine lv_astore (lv' := [(4, .ref (xa 2 0)), (0, .ref (xa 0 0)), (1, .ref (xa 10 i)), (2, .int (nI (a))), (3, .int (nI (y)))]) hx hb dX4_isDarkFor_4 hl (by decide) rfl (fun ls hl => ?_)
  have hl : lv_has ls 8 [(0, .ref (xa 0 0)), (1, .ref (xa 10 i)), (2, .int (nI (a))), (3, .int (nI (y))), (4, .ref (xa 2 0))] := lv_sub hl [1, 2, 3, 4, 0] rfl
  refine lv_aload hx hb dX4_isDarkFor_6 (lv_at hl 4 rfl) ?_
  refine x_len hx hb hW 2 0 1 rfl (xg_ea G0 D xa σ τ) (v := nI 20) rfl dX4_isDarkFor_8 ?_
  refine lv_istore (lv' := [(5, .int (nI (20))), (0, .ref (xa 0 0)), (1, .ref (xa 10 i)), (2, .int (nI (a))), (3, .int (nI (y))), (4, .ref (xa 2 0))]) hx hb dX4_isDarkFor_9 hl (by decide) rfl (fun ls hl => ?_)
  have hl : lv_has ls 8 [(0, .ref (xa 0 0)), (1, .ref (xa 10 i)), (2, .int (nI (a))), (3, .int (nI (y))), (4, .ref (xa 2 0)), (5, .int (nI (20)))] := lv_sub hl [1, 2, 3, 4, 5, 0] rfl
  refine lv_iconst (v := nI (0)) hx hb dX4_isDarkFor_11 (by decide +kernel) ?_
  refine lv_istore (lv' := [(6, .int (nI (0))), (0, .ref (xa 0 0)), (1, .ref (xa 10 i)), (2, .int (nI (a))), (3, .int (nI (y))), (4, .ref (xa 2 0)), (5, .int (nI (20)))]) hx hb dX4_isDarkFor_12 hl (by decide) rfl (fun ls hl => ?_)
  have hl : lv_has ls 8 [(0, .ref (xa 0 0)), (1, .ref (xa 10 i)), (2, .int (nI (a))), (3, .int (nI (y))), (4, .ref (xa 2 0)), (5, .int (nI (20))), (6, .int (nI (0)))] := lv_sub hl [1, 2, 3, 4, 5, 6, 0] rfl
  refine x_loop (X := Nat) (I := fun n xv H locs ls => n = 20 - xv ∧ xW D sa A s xa (xGs G0 D xa σ τ) H locs ∧ lv_has ls 8 [(0, .ref (xa 0 0)), (1, .ref (xa 10 i)), (2, .int (nI (a))), (3, .int (nI (y))), (4, .ref (xa 2 0)), (5, .int (nI (20))), (6, .int (nI (xv)))] ∧ (∀ j, j < xv → j < σ 7 0 → ¬ (σ 6 (4 * j) = σ 1 i ∧ σ 6 (4 * j + 1) = a ∧ σ 6 (4 * j + 2) ≤ y ∧ y ≤ σ 6 (4 * j + 3))) ∧ (xv ≤ 20)) (hd := 14) ?_ (n := _) (x := (0)) ⟨rfl, hW, hl, fun j hj => by omega, by (try dsimp only); omega⟩
  rintro n k H locs ls ⟨hn, hW, hl, hno, hk⟩ ih14
  try dsimp only at hn hW hl hno hk
  refine lv_iload hx hb dX4_isDarkFor_14 (lv_at hl 6 rfl) ?_
  refine lv_iload hx hb dX4_isDarkFor_16 (lv_at hl 5 rfl) ?_
  refine lv_icmp_ge (tgt := 55) hx hb dX4_isDarkFor_18 (by decide) (fun c_18 => ?_) (fun c_18 => ?_)
  · -- ge taken
    have c_18 := Int32.le_iff_toInt_le.mp c_18
    rw [nI_toInt (n := k) (by omega)] at c_18
    rw [nI_toInt (n := 20) (by omega)] at c_18
    refine lv_iconst (v := nI (0)) hx hb dX4_isDarkFor_55 (by decide +kernel) ?_
    exact xe_i hx hb hr rfl hlocks hW ⟨rfl, tv.zero (by rintro ⟨j, hj, h⟩; exact hno j (by omega) hj h)⟩ (Nat.le_of_ble_eq_true rfl) (Nat.le_of_ble_eq_true rfl) dX4_isDarkFor_56
  · -- ge not
    have c_18 : ¬ ((nI (20)).toInt ≤ (nI (k)).toInt) := fun h => c_18 (Int32.le_iff_toInt_le.mpr h)
    rw [nI_toInt (n := k) (by omega)] at c_18
    rw [nI_toInt (n := 20) (by omega)] at c_18
    by_cases hkn : k < σ 7 0
    ·
      refine lv_aload hx hb dX4_isDarkFor_21 (lv_at hl 4 rfl) ?_
      refine lv_iload hx hb dX4_isDarkFor_23 (lv_at hl 6 rfl) ?_
      refine x_ald2 hx hb hW 2 0 1 rfl (xg_ea G0 D xa σ τ) (k) (by omega) (by omega) (v := .ref (xa 12 k)) (by show va_rf (if _ then _ else _) = _; rw [if_pos hkn]; rfl) dX4_isDarkFor_25 ?_
      refine lv_astore (lv' := [(7, .ref (xa 12 k)), (0, .ref (xa 0 0)), (1, .ref (xa 10 i)), (2, .int (nI (a))), (3, .int (nI (y))), (4, .ref (xa 2 0)), (5, .int (nI (20))), (6, .int (nI (k)))]) hx hb dX4_isDarkFor_26 hl (by decide) rfl (fun ls hl => ?_)
      have hl : lv_has ls 8 [(0, .ref (xa 0 0)), (1, .ref (xa 10 i)), (2, .int (nI (a))), (3, .int (nI (y))), (4, .ref (xa 2 0)), (5, .int (nI (20))), (6, .int (nI (k))), (7, .ref (xa 12 k))] := lv_sub hl [1, 2, 3, 4, 5, 6, 7, 0] rfl
      refine lv_aload hx hb dX4_isDarkFor_28 (lv_at hl 7 rfl) ?_
      refine lv_ifnull hx hb dX4_isDarkFor_30 ?_
      refine lv_aload hx hb dX4_isDarkFor_33 (lv_at hl 7 rfl) ?_
      refine lv_aload_n hx hb dX4_isDarkFor_35 rfl (lv_at hl 1 rfl) ?_
      refine x_get hx hb hts hin1 hown hW 10 i (xg_p G0 D xa σ τ (i := i) (by omega)) rfl 1 (by decide) (hts (.fieldLink RX4 203 "Restitutory$Person" "group" "I") (by decide +kernel)) rfl (v := .int (nI (σ 1 i))) (rfl) dX4_isDarkFor_36 ?_
      have b_36 := hB 1 i
      refine lv_iload_n hx hb dX4_isDarkFor_39 rfl (lv_at hl 2 rfl) ?_
      refine lv_iload_n hx hb dX4_isDarkFor_40 rfl (lv_at hl 3 rfl) ?_
      refine xv_i (k := 12) (i := k) (As := [.int (nI (σ 1 i)), .int (nI (a)), .int (nI (y))]) (rest := []) ⟨hx, hb, hml, hown, hts⟩ (c_X0_strikes l D sa xa G0 σ τ hg k (σ 1 i) a y (by omega) (by omega) (by omega) (by omega)) (cwV 3 hts gX4_isDarkFor_X0_strikes rfl rfl rfl (by decide +kernel) ⟨Nat.le_of_ble_eq_true rfl, Nat.le_of_ble_eq_true rfl⟩) hW (xg_e G0 D xa σ τ (i := k) (by omega)) rfl rfl rfl rfl hl.1 (Nat.le_of_ble_eq_true rfl) dX4_isDarkFor_41 ⟨Nat.le_of_ble_eq_true rfl, Nat.le_of_ble_eq_true rfl⟩ (fun r_41 xa1 G1 H locs hp hW => ?_)
      obtain ⟨hu, hr_41⟩ := hp
      cases hu
      refine lv_if_eq (tgt := 49) hx hb dX4_isDarkFor_44 (by decide) (fun c_44 => ?_) (fun c_44 => ?_)
      · -- eq taken
        have c_44 := hr_41.f c_44
        refine lv_iinc (v := nI (k + 1)) (lv' := [(6, .int (nI (k + 1))), (0, .ref (xa 0 0)), (1, .ref (xa 10 i)), (2, .int (nI (a))), (3, .int (nI (y))), (4, .ref (xa 2 0)), (5, .int (nI (20))), (7, .ref (xa 12 k))]) hx hb dX4_isDarkFor_49 hl (k := 6) rfl (x_inc k 1 rfl) (by decide) rfl (fun ls hl => ?_)
        have hl : lv_has ls 8 [(0, .ref (xa 0 0)), (1, .ref (xa 10 i)), (2, .int (nI (a))), (3, .int (nI (y))), (4, .ref (xa 2 0)), (5, .int (nI (20))), (6, .int (nI (k + 1))), (7, .ref (xa 12 k))] := lv_sub hl [1, 2, 3, 4, 5, 6, 0, 7] rfl
        refine lv_goto (tgt := 14) hx hb dX4_isDarkFor_52 (by decide) ?_
        exact ih14 (20 - (k + 1)) (k + 1) _ _ _ (by omega) ⟨rfl, hW, lv_sub hl [0, 1, 2, 3, 4, 5, 6] rfl, fun j hj hj2 => by by_cases hjk : j = k; rw [hjk]; exact c_44; exact hno j (by omega) hj2, by (try dsimp only); omega⟩
      · -- eq not
        have c_44 := hr_41.t c_44
        refine lv_iconst (v := nI (1)) hx hb dX4_isDarkFor_47 (by decide +kernel) ?_
        exact xe_i hx hb hr rfl hlocks hW ⟨rfl, tv.one ⟨k, hkn, c_44⟩⟩ (Nat.le_of_ble_eq_true rfl) (Nat.le_of_ble_eq_true rfl) dX4_isDarkFor_48
    ·
      refine lv_aload hx hb dX4_isDarkFor_21 (lv_at hl 4 rfl) ?_
      refine lv_iload hx hb dX4_isDarkFor_23 (lv_at hl 6 rfl) ?_
      refine x_ald2 hx hb hW 2 0 1 rfl (xg_ea G0 D xa σ τ) (k) (by omega) (by omega) (v := .null) (by show va_rf (if _ then _ else _) = _; rw [if_neg hkn]; rfl) dX4_isDarkFor_25 ?_
      refine lv_astoreN (lv' := [(7, .null), (0, .ref (xa 0 0)), (1, .ref (xa 10 i)), (2, .int (nI (a))), (3, .int (nI (y))), (4, .ref (xa 2 0)), (5, .int (nI (20))), (6, .int (nI (k)))]) hx hb dX4_isDarkFor_26 hl (by decide) rfl (fun ls hl => ?_)
      have hl : lv_has ls 8 [(0, .ref (xa 0 0)), (1, .ref (xa 10 i)), (2, .int (nI (a))), (3, .int (nI (y))), (4, .ref (xa 2 0)), (5, .int (nI (20))), (6, .int (nI (k))), (7, .null)] := lv_sub hl [1, 2, 3, 4, 5, 6, 7, 0] rfl
      refine lv_aloadN hx hb dX4_isDarkFor_28 (lv_at hl 7 rfl) ?_
      refine lv_ifnullN (tgt := 49) hx hb dX4_isDarkFor_30 (by decide) ?_
      refine lv_iinc (v := nI (k + 1)) (lv' := [(6, .int (nI (k + 1))), (0, .ref (xa 0 0)), (1, .ref (xa 10 i)), (2, .int (nI (a))), (3, .int (nI (y))), (4, .ref (xa 2 0)), (5, .int (nI (20))), (7, .null)]) hx hb dX4_isDarkFor_49 hl (k := 6) rfl (x_inc k 1 rfl) (by decide) rfl (fun ls hl => ?_)
      have hl : lv_has ls 8 [(0, .ref (xa 0 0)), (1, .ref (xa 10 i)), (2, .int (nI (a))), (3, .int (nI (y))), (4, .ref (xa 2 0)), (5, .int (nI (20))), (6, .int (nI (k + 1))), (7, .null)] := lv_sub hl [1, 2, 3, 4, 5, 6, 0, 7] rfl
      refine lv_goto (tgt := 14) hx hb dX4_isDarkFor_52 (by decide) ?_
      exact ih14 (20 - (k + 1)) (k + 1) _ _ _ (by omega) ⟨rfl, hW, lv_sub hl [0, 1, 2, 3, 4, 5, 6] rfl, fun j hj hj2 => by by_cases hjk : j = k; rw [hjk]; omega; exact hno j (by omega) hj2, by (try dsimp only); omega⟩
end
