/-! METHODS THAT HAVE THE SCRIPT -/
def xPz (D : xD) (sa : Nat → Nat) (xa : xA) (G : xG) (sz b L : Nat) (xs : Nat → Int32) : State → Prop := fun U => xPs D sa xa G sz U ∧ va_X b L xs U U.heap ∧ b < sz ∧ ∀ k i : Nat, G k i ≠ none → xa k i ≠ b
def zCi (l : Launch) (y : MethodName) (ws : List Cond) (rm : Room) (D : xD) (sa : Nat → Nat) (xa : xA) (G : xG) (b L : Nat) (xs : Nat → Int32) (av : List Value) (post : Int32 → xA × xG → Prop) (mc ms : Nat) : Prop :=
  ∀ sz : Nat, Met l y ws rm (va_Pc av (xPz D sa xa G sz b L xs)) (va_Qi post (xB D (xAw xa G sz)) (xAw xa G sz)) mc ms (xAw xa G sz)
theorem xPz_blind {D : xD} {sa : Nat → Nat} {xa : xA} {G : xG} {sz b L : Nat} {xs : Nat → Int32} {av : List Value} : FrameBlind (va_Pc av (xPz D sa xa G sz b L xs)) := fun a U g mk q => by
  obtain ⟨q0, q1, q2, q3, q4⟩ := q
  exact ⟨q0, (xPs_blind a U g mk ⟨q0, q1⟩).2, va_X.moved (u := U) (U := U.calling g mk a) (Vm.Alike.refl U.vm) q2, q3, q4⟩
theorem xAw_b {xa : xA} {G : xG} {sz b : Nat} (h1 : b < sz) (h2 : ∀ k i : Nat, G k i ≠ none → xa k i ≠ b) : ¬ xAw xa G sz b := by
  rintro (⟨k, i, h3, h4⟩ | h)
  · exact h2 k i h3 h4
  · omega
section XZ
variable {p : Program} {l : Launch} {e : Env} {R : Room} {s : State} {m : MethodId} {args : Array Value} {below : List Frame} {meth : Method} {c : Code} {H : Heap} {locs : List Loc} {cells slots : Nat} {Q : State → Prop}
variable {cc : ByteArray} {pc : Nat} {ls : Array Slot} {rest st0 : List Value} {D : xD} {sa : Nat → Nat} {A : Nat → Prop} {xa : xA} {G : xG} {b L : Nat} {xs : Nat → Int32}
variable {y : MethodName} {bytes : ByteArray} {maxL nL mc ms n index : Nat} {ret : Option FieldType} {ws Ts : List Cond} {rm : Room} {own C : String} {As : List Value} {hh : List (Nat × Nat × Nat × Nat)}
theorem xW.preZ (hW : xW D sa A s xa G H locs) (hX : va_X b L xs s s.heap) (hbl : b < s.heap.size) (hbA : ¬ A b) {av : List Value} : PreS s H (va_Pc av (xPz D sa xa G H.size b L xs)) av :=
  ⟨xPz_blind, fun U hU hv => ⟨rfl, hW.pre hU hv, va_X.moved hv.alike (by rw [hU]; exact hX.kept (hW.S.2.1 b hbl hbA)), Nat.lt_of_lt_of_le hbl hW.S.1, fun k i hk he => hbA (he ▸ hW.2.1 k i hk)⟩⟩
theorem xs_z {post : Int32 → xA × xG → Prop} (S : CallFix p m c cc nL s args Ts own) (hM : zCi l y ws rm D sa xa G b L xs As post mc ms) (cw : CallB R s args own index y bytes maxL ret ws rm mc ms n ∧ (Cond.static y).before args s = true) (hX : va_X b L xs s s.heap) (hbl : b < s.heap.size) (hbA : ¬ A b) (hW : xW D sa A s xa G H locs) (hst : st0 = As.reverse ++ rest) (hn : As.length = n) (hls : ls.size = nL) (hroom : (rest.map fun v => v.category).sum ≤ 8) (hdg : decode cc pc = .ok (.invokestatic index, 3)) (hf : cells + mc ≤ R.cells ∧ slots + ms ≤ R.slots)
    (kk : ∀ (r : Int32) (xa1 : xA) (G1 : xG) (H1 : Heap) (locs1 : List Loc), post r (xa1, G1) → xW D sa A s xa1 G1 H1 locs1 → W p l e R s m args below meth c H1 locs1 (cells + mc) (slots + ms) Q (F0 m (pc + 3) ls (.int r :: rest))) : W p l e R s m args below meth c H locs cells slots Q (F0 m pc ls st0) := by
  subst hst
  exact xr_i hW (va_runS S (hM H.size) cw (hW.preZ hX hbl hbA) rfl hn hls rfl (lv_room hroom) hdg hf) kk
/-- the callee has a table of its own -/
theorem xsw_z {post : Int32 → xA × xG → Prop} (S : CallFix p m c cc nL s args Ts own) (hM : zCi l y ws rm D sa xa G b L xs As post mc ms) (cw : vx_CSW R s args own index y bytes maxL ret hh ws rm mc ms n) (hX : va_X b L xs s s.heap) (hbl : b < s.heap.size) (hbA : ¬ A b) (hW : xW D sa A s xa G H locs) (hst : st0 = As.reverse ++ rest) (hn : As.length = n) (hls : ls.size = nL) (hroom : (rest.map fun v => v.category).sum ≤ 8) (hdg : decode cc pc = .ok (.invokestatic index, 3)) (hf : cells + mc ≤ R.cells ∧ slots + ms ≤ R.slots)
    (kk : ∀ (r : Int32) (xa1 : xA) (G1 : xG) (H1 : Heap) (locs1 : List Loc), post r (xa1, G1) → xW D sa A s xa1 G1 H1 locs1 → W p l e R s m args below meth c H1 locs1 (cells + mc) (slots + ms) Q (F0 m (pc + 3) ls (.int r :: rest))) : W p l e R s m args below meth c H locs cells slots Q (F0 m pc ls st0) := by
  subst hst
  exact xr_i hW (vx_runSW S (hM H.size) cw (hW.preZ hX hbl hbA) rfl hn hls rfl (lv_room hroom) hdg hf) kk
theorem l_sld (hexec : p.tables.exec = Jvm.exec) (hb : c.code = cc) (hX : va_X b L xs s s.heap) (hbl : b < s.heap.size) (hbA : ¬ A b) (hLL : L ≤ 260) (hW : xW D sa A s xa G H locs) {j : Nat} (hj : j < L) (hdg : decode cc pc = .ok (.iaload, 1))
    (kk : W p l e R s m args below meth c H locs cells slots Q (F0 m (pc + 1) ls (.int (xs j) :: rest))) : W p l e R s m args below meth c H locs cells slots Q (F0 m pc ls (.int (nI j) :: .ref b :: rest)) := by
  refine va_sld hexec hb hX hbl hbA hW.S (vp_in_nI hj (by omega)) hdg ?_
  rw [nI_clamp (by omega)]
  exact kk
theorem l_slen (hexec : p.tables.exec = Jvm.exec) (hb : c.code = cc) (hX : va_X b L xs s s.heap) (hbl : b < s.heap.size) (hbA : ¬ A b) (hW : xW D sa A s xa G H locs) (hdg : decode cc pc = .ok (.arraylength, 1))
    (kk : W p l e R s m args below meth c H locs cells slots Q (F0 m (pc + 1) ls (.int (nI L) :: rest))) : W p l e R s m args below meth c H locs cells slots Q (F0 m pc ls (.ref b :: rest)) := va_slen hexec hb hX hbl hbA hW.S hdg kk
/-- a loop whose steps make cells -/
theorem x_loopC {X : Type} {I : Nat → X → Heap → List Loc → Array Slot → Prop} {hd : Nat} {cl sl : X → Nat} (step : ∀ (n : Nat) (x : X) (H : Heap) (locs : List Loc) (ls : Array Slot), I n x H locs ls → (∀ (n' : Nat) (x' : X) (H' : Heap) (locs' : List Loc) (ls' : Array Slot), n' < n → I n' x' H' locs' ls' → W p l e R s m args below meth c H' locs' (cl x') (sl x') Q (F0 m hd ls' [])) → W p l e R s m args below meth c H locs (cl x) (sl x) Q (F0 m hd ls []))
    {n : Nat} {x : X} (h0 : I n x H locs ls) : W p l e R s m args below meth c H locs (cl x) (sl x) Q (F0 m hd ls []) := by
  have key : ∀ (k n : Nat), n < k → ∀ (x : X) (H : Heap) (locs : List Loc) (ls : Array Slot), I n x H locs ls → W p l e R s m args below meth c H locs (cl x) (sl x) Q (F0 m hd ls []) := by
    intro k
    induction k with
    | zero => intro n hn; omega
    | succ k ih => intro n hn x H locs ls hI; exact step n x H locs ls hI (fun n' x' H' locs' ls' hlt hI' => ih n' (by omega) x' H' locs' ls' hI')
  exact key (n + 1) n (by omega) x H locs ls h0
end XZ
theorem xE_xa (D : xD) {xa xa1 : xA} (σ : Sg) (τ : Tg) (k i : Nat) (h : ∀ k, k < 20 → xa1 k = xa k) : xE D xa1 σ τ k i = xE D xa σ τ k i := by
  unfold xE xfs pfs tfs sfs
  simp only [h 1 (by omega), h 2 (by omega), h 3 (by omega), h 4 (by omega), h 10 (by omega), h 11 (by omega), h 12 (by omega), h 13 (by omega), h 14 (by omega), h 15 (by omega)]
/-- the law's world at first -/
theorem w24_0 {D : xD} {sa : Nat → Nat} {A : Nat → Prop} {s : State} {H : Heap} {locs : List Loc} {y2 y8 : xA} {e0 : va_E} (hy : ∀ k, k < 20 → y8 k = y2 k)
    (hW : xW D sa A s y8 (xup (xup (xup (xup (xup (xup (xGs (xup (fun _ _ => none) 0 0 e0) D y2 sg0 tg0) 40 0 (.inl (D.2 4, 8, .inl (fun _ => nI 0)))) 41 0 (.inl (D.2 6, 8, .inr (.inl (fun _ => 0))))) 42 0 (.inl (D.2 4, 32, .inl (fun _ => nI 0)))) 43 0 (.inl (D.2 4, 6, .inl (fun _ => nI 0)))) 44 0 (.inl (D.2 4, 24, .inl (fun _ => nI 0)))) 45 0 (.inl (D.2 4, 10, .inl (fun _ => nI 0)))) H locs) :
    xW D sa A s y8 (xGs (LGf D (fun _ => nI 0) (fun _ => 0) (fun _ => nI 0) (fun _ => nI 0) (fun _ => nI 0) (fun _ => nI 0)) D y8 sg0 tg0) H locs := by
  refine hW.to fun k i e hk => ⟨?_, rfl⟩
  unfold xGs at hk
  by_cases h20 : k < 20
  · rw [if_pos h20, xE_xa D sg0 tg0 k i hy] at hk
    rw [xup_ne _ _ (by omega), xup_ne _ _ (by omega), xup_ne _ _ (by omega), xup_ne _ _ (by omega), xup_ne _ _ (by omega), xup_ne _ _ (by omega)]
    exact (if_pos h20).trans hk
  · rw [if_neg h20] at hk
    unfold LGf at hk
    by_cases hi : i = 0
    · subst hi
      rw [if_pos rfl] at hk
      split at hk
      · exact (xup_ne _ _ (by omega)).trans ((xup_ne _ _ (by omega)).trans ((xup_ne _ _ (by omega)).trans ((xup_ne _ _ (by omega)).trans ((xup_ne _ _ (by omega)).trans ((xup_self _ _ _ _).trans hk)))))
      · exact (xup_ne _ _ (by omega)).trans ((xup_ne _ _ (by omega)).trans ((xup_ne _ _ (by omega)).trans ((xup_ne _ _ (by omega)).trans ((xup_self _ _ _ _).trans hk))))
      · exact (xup_ne _ _ (by omega)).trans ((xup_ne _ _ (by omega)).trans ((xup_ne _ _ (by omega)).trans ((xup_self _ _ _ _).trans hk)))
      · exact (xup_ne _ _ (by omega)).trans ((xup_ne _ _ (by omega)).trans ((xup_self _ _ _ _).trans hk))
      · exact (xup_ne _ _ (by omega)).trans ((xup_self _ _ _ _).trans hk)
      · exact (xup_self _ _ _ _).trans hk
      · cases hk
    · rw [if_neg hi] at hk; cases hk
theorem LG_sg0 {D : xD} : LGf D (fun _ => nI 0) (fun _ => 0) (fun _ => nI 0) (fun _ => nI 0) (fun _ => nI 0) (upd (fun _ => nI 0) 0 (nI 1900)) = LG D sg0 := by
  refine LG_of ?_ ?_ ?_ ?_ ?_ ?_
  · funext j
    unfold pf
    rw [sg0_n (by decide), sg0_n (by decide)]
  · funext j
    unfold hf hpv
    rw [sg0_n (by decide)]
    rfl
  · funext j
    unfold wf
    rw [sg0_n (by decide)]
  · funext j
    show nI 0 = nI (if j % 2 = 0 then 0 else 0)
    split <;> rfl
  · funext j
    unfold cf cpv
    rw [sg0_n (j := 13) (by decide), sg0_n (j := 14) (by decide), sg0_n (j := 15) (by decide), sg0_n (j := 16) (by decide), sg0_n (j := 17) (by decide), sg0_n (j := 18) (by decide)]
  · funext j
    unfold upd mf mv
    by_cases h : j = 0
    · rw [if_pos h, if_pos h]; rfl
    · rw [if_neg h, if_neg h]
      show nI 0 = nI (if j = 1 then 0 else if j < 5 then 0 else 0)
      split
      · rfl
      · split <;> rfl
theorem LG_person {D : xD} {σ : Sg} {v : Nat} (hv : v < 4) (h2 : σ 2 (σ 5 0) = 0) : LGf D (upd (pf σ) (σ 5 0) (nI v)) (hf σ) (wf σ) (tf σ) (cf σ) (mf σ) = LG D (t_person σ (nI v) 0) := by
  rw [show t_person σ (nI v) 0 = sup (sup σ 1 (σ 5 0) v) 5 0 (σ 5 0 + 1) from by unfold t_person; rw [if_pos rfl, xn_nI (by omega)]]
  refine LG_of ?_ (hf_c rfl rfl) rfl rfl rfl rfl
  show _ = pf (sup σ 1 (σ 5 0) v)
  rw [pf_1, h2]; rfl
theorem LG_thing {D : xD} {σ : Sg} {v z : Nat} (hv : v < 65536) (hz : z < 1001) : LGf D (pf σ) (hf σ) (wf σ) (upd (upd (tf σ) (2 * σ 12 0) (nI v)) (2 * σ 12 0 + 1) (nI z)) (cf σ) (mf σ) = LG D (t_thing σ (nI v) (nI z) 0) := by
  rw [show t_thing σ (nI v) (nI z) 0 = sup (sup (sup σ 9 (σ 12 0) v) 10 (σ 12 0) z) 12 0 (σ 12 0 + 1) from by unfold t_thing; rw [if_pos rfl, xn_nI (by omega), xn_nI (by omega)]]
  refine LG_of rfl (hf_c rfl rfl) rfl ?_ rfl rfl
  show _ = tf (sup (sup σ 9 (σ 12 0) v) 10 (σ 12 0) z)
  rw [tf_10, tf_9]
theorem t_person_r {σ : Sg} {v : Nat} (hv : v < 4) : t_person σ (nI v) 0 5 0 = σ 5 0 + 1 ∧ t_person σ (nI v) 0 12 0 = σ 12 0 ∧ t_person σ (nI v) 0 7 0 = σ 7 0 := by
  rw [show t_person σ (nI v) 0 = sup (sup σ 1 (σ 5 0) v) 5 0 (σ 5 0 + 1) from by unfold t_person; rw [if_pos rfl, xn_nI (by omega)]]
  exact ⟨sup_self _ _ _ _, rfl, rfl⟩
theorem t_thing_r {σ : Sg} {v z : Nat} (hv : v < 65536) (hz : z < 1001) : t_thing σ (nI v) (nI z) 0 12 0 = σ 12 0 + 1 ∧ t_thing σ (nI v) (nI z) 0 5 0 = σ 5 0 ∧ t_thing σ (nI v) (nI z) 0 7 0 = σ 7 0 := by
  rw [show t_thing σ (nI v) (nI z) 0 = sup (sup (sup σ 9 (σ 12 0) v) 10 (σ 12 0) z) 12 0 (σ 12 0 + 1) from by unfold t_thing; rw [if_pos rfl, xn_nI (by omega), xn_nI (by omega)]]
  exact ⟨sup_self _ _ _ _, rfl, rfl⟩
