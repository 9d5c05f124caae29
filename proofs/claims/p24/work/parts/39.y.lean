/-! THE LAW'S OWN CALLS OF THE CLASS: the exception as a number -/
theorem gk.no2 {P R : Prop} (h : gk P True R 2) : False := by unfold gk at h; simp at h
theorem gk.no3 {P Q : Prop} (h : gk P Q True 3) : False := by unfold gk at h; simp at h
def tvl (v : Int64) (P : Prop) : Prop := (P ∧ v = 1) ∨ (¬ P ∧ v = 0)
theorem xup_same {G : xG} {k i : Nat} {e : va_E} (h : G k i = some e) : xup G k i e = G := by
  funext x y
  unfold xup
  split
  case isTrue hh => rw [hh.1, hh.2, h]
  case isFalse => rfl
theorem xup_G (G : xG) (D : xD) (xa : xA) (σ : Sg) (τ : Tg) {k i : Nat} (hk : 20 ≤ k) (e : va_E) : xup (xGs G D xa σ τ) k i e = xGs (xup G k i e) D xa σ τ := by
  funext x y
  unfold xGs xup
  dsimp only
  by_cases h : x < 20
  · rw [if_pos h, if_pos h, if_neg (by omega)]
  · rw [if_neg h, if_neg h]
section XWX
variable {D : xD} {sa : Nat → Nat} {A : Nat → Prop} {s : State} {xa : xA} {G : xG} {H : Heap} {locs : List Loc}
theorem xW.cast {args : Array Value} (h : xW D sa A s xa G H locs) {E : String} (hE : E ∈ xExc) : (Cond.castable E E).before args s = true := va_Nw.use rfl (h.2.2.2.2.2.2.2.2.1 E hE)
theorem xW.Nc (h : xW D sa A s xa G H locs) {E F : String} (hE : E ∈ xExc) (hF : F ∈ xExc) (hn : E ≠ F) : va_Nc E F s := h.2.2.2.2.2.2.2.2.2.2.1 E hE F hF hn
end XWX
section XH
variable {p : Program} {l : Launch} {e : Env} {R : Room} {s : State} {m : MethodId} {args : Array Value} {below : List Frame} {meth : Method} {c : Code} {H : Heap} {locs : List Loc} {cells slots : Nat} {Q : State → Prop}
variable {cc : ByteArray} {pc : Nat} {ls : Array Slot} {rest st0 : List Value} {D : xD} {sa : Nat → Nat} {A : Nat → Prop} {xa : xA} {G : xG}
variable {y : MethodName} {bytes : ByteArray} {maxL nL mc ms n index : Nat} {ret : Option FieldType} {ws Ts : List Cond} {rm : Room} {own C : String} {As : List Value}
theorem yh_i {post : Int32 → xA × xG → Prop} {pex : String → Prop} {k i ci : Nat} {fs : List Value} {q : vw_C} (S : CallFix p m c cc nL s args Ts own) (hM : xXi l y ws rm D sa xa G (.ref (xa k i) :: As) post pex mc ms) (cw : CallW R s args own C index y bytes maxL ret ws rm mc ms n) (hW : xW D sa A s xa G H locs) (hG : G k i = some (.inr (ci, fs))) (hc : vwCl[ci]? = some q) (hC : q.1 = C) (hst : st0 = As.reverse ++ .ref (xa k i) :: rest) (hn : As.length = n) (hls : ls.size = nL) (hroom : (rest.map fun v => v.category).sum ≤ 8) (hdg : decode cc pc = .ok (.invokevirtual index, 3)) (hf : cells + mc ≤ R.cells ∧ slots + ms ≤ R.slots)
    (kx : ∀ (E : String) (ce : Cell) (q9 : Addr) (H1 : Heap) (locs1 : List Loc), pex E → xW D sa A s xa G H1 locs1 → H1[q9]? = some ce → ce.vm = .none → s.vm.findClass E = some ce.cls → vx_W p l e R s m args below meth c H1 locs1 (cells + mc) (slots + ms) Q (F0 m pc ls rest) q9)
    (kk : ∀ (r : Int32) (xa1 : xA) (G1 : xG) (H1 : Heap) (locs1 : List Loc), post r (xa1, G1) → xW D sa A s xa1 G1 H1 locs1 → W p l e R s m args below meth c H1 locs1 (cells + mc) (slots + ms) Q (F0 m (pc + 3) ls (.int r :: rest))) : W p l e R s m args below meth c H locs cells slots Q (F0 m pc ls st0) := by
  subst hst
  exact vx_calli (vx_runV S (hM H.size) cw (hW.preV hG hc hC) rfl hn hls rfl (lv_room hroom) hdg hf) hW.S (fun q _ h => hW.sub q h) hW.sub (fun q _ h => hW.sub q h) (fun E ce q9 u t H1 locs1 ht hvm hp hB hz hk hS hce hv hcl => by
    obtain ⟨h1, rfl, hB⟩ := hB
    exact kx E ce q9 H1 locs1 h1 (hW.post ht hB hS) hce hv hcl) (fun r u t H1 locs1 ht hvm hp hB hz hk hS => kk r u.1 u.2 H1 locs1 hp (hW.post ht hB hS))
theorem yh_v {post : xA × xG → Prop} {pex : String → Prop} {k i ci : Nat} {fs : List Value} {q : vw_C} (S : CallFix p m c cc nL s args Ts own) (hM : xXv l y ws rm D sa xa G (.ref (xa k i) :: As) post pex mc ms) (cw : CallW R s args own C index y bytes maxL ret ws rm mc ms n) (hW : xW D sa A s xa G H locs) (hG : G k i = some (.inr (ci, fs))) (hc : vwCl[ci]? = some q) (hC : q.1 = C) (hst : st0 = As.reverse ++ .ref (xa k i) :: rest) (hn : As.length = n) (hls : ls.size = nL) (hroom : (rest.map fun v => v.category).sum ≤ 8) (hdg : decode cc pc = .ok (.invokevirtual index, 3)) (hf : cells + mc ≤ R.cells ∧ slots + ms ≤ R.slots)
    (kx : ∀ (E : String) (ce : Cell) (q9 : Addr) (H1 : Heap) (locs1 : List Loc), pex E → xW D sa A s xa G H1 locs1 → H1[q9]? = some ce → ce.vm = .none → s.vm.findClass E = some ce.cls → vx_W p l e R s m args below meth c H1 locs1 (cells + mc) (slots + ms) Q (F0 m pc ls rest) q9)
    (kk : ∀ (xa1 : xA) (G1 : xG) (H1 : Heap) (locs1 : List Loc), post (xa1, G1) → xW D sa A s xa1 G1 H1 locs1 → W p l e R s m args below meth c H1 locs1 (cells + mc) (slots + ms) Q (F0 m (pc + 3) ls rest)) : W p l e R s m args below meth c H locs cells slots Q (F0 m pc ls st0) := by
  subst hst
  exact vx_callv (vx_runV S (hM H.size) cw (hW.preV hG hc hC) rfl hn hls rfl (lv_room hroom) hdg hf) hW.S (fun q _ h => hW.sub q h) hW.sub (fun q _ h => hW.sub q h) (fun E ce q9 u t H1 locs1 ht hvm hp hB hz hk hS hce hv hcl => by
    obtain ⟨h1, rfl, hB⟩ := hB
    exact kx E ce q9 H1 locs1 h1 (hW.post ht hB hS) hce hv hcl) (fun u t H1 locs1 ht hvm hp hB hz hk hS => kk u.1 u.2 H1 locs1 hp (hW.post ht hB hS))
end XH

/-! calls of the class that cannot throw here, in a method that catches nothing -/
theorem pxk_no {P Q R : Prop} {E1 E2 E3 E : String} (hp : P) (hq : Q) (hr : R) : ¬ pxk (gk P Q R) E1 E2 E3 E := by
  rintro ⟨k, hk, h⟩
  unfold gk at hk
  rcases hk with ⟨h1, -⟩ | ⟨-, h1, -⟩ | ⟨-, -, -, rfl⟩ | ⟨-, -, h1, -⟩
  · exact h1 hp
  · exact h1 hq
  · omega
  · exact h1 hr
section YG
variable {p : Program} {l : Launch} {e : Env} {R : Room} {s : State} {m : MethodId} {args : Array Value} {below : List Frame} {meth : Method} {c : Code} {H : Heap} {locs : List Loc} {cells slots : Nat} {Q : State → Prop}
variable {cc : ByteArray} {pc : Nat} {ls : Array Slot} {rest st0 : List Value} {D : xD} {sa : Nat → Nat} {A : Nat → Prop} {xa : xA} {G : xG}
variable {y : MethodName} {bytes : ByteArray} {maxL nL mc ms n index : Nat} {ret : Option FieldType} {ws Ts : List Cond} {rm : Room} {own C : String} {As : List Value}
theorem yg_i {post : Int32 → xA × xG → Prop} {pex : String → Prop} {k i ci : Nat} {fs : List Value} {q : vw_C} (S : CallFix p m c cc nL s args Ts own) (hM : xXi l y ws rm D sa xa G (.ref (xa k i) :: As) post pex mc ms) (hne : ∀ E, ¬ pex E) (cw : CallW R s args own C index y bytes maxL ret ws rm mc ms n) (hW : xW D sa A s xa G H locs) (hG : G k i = some (.inr (ci, fs))) (hc : vwCl[ci]? = some q) (hC : q.1 = C) (hst : st0 = As.reverse ++ .ref (xa k i) :: rest) (hn : As.length = n) (hls : ls.size = nL) (hroom : (rest.map fun v => v.category).sum ≤ 8) (hdg : decode cc pc = .ok (.invokevirtual index, 3)) (hf : cells + mc ≤ R.cells ∧ slots + ms ≤ R.slots)
    (kk : ∀ (r : Int32) (xa1 : xA) (G1 : xG) (H1 : Heap) (locs1 : List Loc), post r (xa1, G1) → xW D sa A s xa1 G1 H1 locs1 → W p l e R s m args below meth c H1 locs1 (cells + mc) (slots + ms) Q (F0 m (pc + 3) ls (.int r :: rest))) : W p l e R s m args below meth c H locs cells slots Q (F0 m pc ls st0) :=
  yh_i S hM cw hW hG hc hC hst hn hls hroom hdg hf (fun E _ _ _ _ h => absurd h (hne E)) kk
theorem yg_v {post : xA × xG → Prop} {pex : String → Prop} {k i ci : Nat} {fs : List Value} {q : vw_C} (S : CallFix p m c cc nL s args Ts own) (hM : xXv l y ws rm D sa xa G (.ref (xa k i) :: As) post pex mc ms) (hne : ∀ E, ¬ pex E) (cw : CallW R s args own C index y bytes maxL ret ws rm mc ms n) (hW : xW D sa A s xa G H locs) (hG : G k i = some (.inr (ci, fs))) (hc : vwCl[ci]? = some q) (hC : q.1 = C) (hst : st0 = As.reverse ++ .ref (xa k i) :: rest) (hn : As.length = n) (hls : ls.size = nL) (hroom : (rest.map fun v => v.category).sum ≤ 8) (hdg : decode cc pc = .ok (.invokevirtual index, 3)) (hf : cells + mc ≤ R.cells ∧ slots + ms ≤ R.slots)
    (kk : ∀ (xa1 : xA) (G1 : xG) (H1 : Heap) (locs1 : List Loc), post (xa1, G1) → xW D sa A s xa1 G1 H1 locs1 → W p l e R s m args below meth c H1 locs1 (cells + mc) (slots + ms) Q (F0 m (pc + 3) ls rest)) : W p l e R s m args below meth c H locs cells slots Q (F0 m pc ls st0) :=
  yh_v S hM cw hW hG hc hC hst hn hls hroom hdg hf (fun E _ _ _ _ h => absurd h (hne E)) kk
/-- a number that comes by several ways -/
theorem x_joinN {g : JFrame} {P : Nat → Prop} {mpc : Nat} {rest : List Value} (h : ∀ (H : Heap) (locs : List Loc) (v : Nat), xW D sa A s xa G H locs → P v → W p l e R s m args below meth c H locs cells slots Q (F0 m mpc ls (.int (nI v) :: rest)))
    (k : (∀ (H : Heap) (locs : List Loc) (v : Nat), xW D sa A s xa G H locs → P v → W p l e R s m args below meth c H locs cells slots Q (F0 m mpc ls (.int (nI v) :: rest))) → W p l e R s m args below meth c H locs cells slots Q g) : W p l e R s m args below meth c H locs cells slots Q g := k h
theorem x_joinI {g : JFrame} {P : Int32 → Prop} {mpc : Nat} {rest : List Value} (h : ∀ (H : Heap) (locs : List Loc) (v : Int32), xW D sa A s xa G H locs → P v → W p l e R s m args below meth c H locs cells slots Q (F0 m mpc ls (.int v :: rest)))
    (k : (∀ (H : Heap) (locs : List Loc) (v : Int32), xW D sa A s xa G H locs → P v → W p l e R s m args below meth c H locs cells slots Q (F0 m mpc ls (.int v :: rest))) → W p l e R s m args below meth c H locs cells slots Q g) : W p l e R s m args below meth c H locs cells slots Q g := k h
end YG
