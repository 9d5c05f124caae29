/-! THE LAW'S STEPS -/
theorem gk.lt {P Q R : Prop} {k : Nat} (h : gk P Q R k) : k < 4 := by unfold gk at h; omega
def G30 (D : xD) (f : Nat → Int64) : xG := xup (fun _ _ => none) 30 0 (.inl (D.2 6, 1, .inr (.inl f)))
def lG (D : xD) (xa : xA) (σ : Sg) (τ : Tg) (ρ : Nat → Nat) (la : Nat) (f : Nat → Int64) : xG := xGs (mG (G30 D f) D xa σ ρ la) D xa σ τ
theorem mE_xa (D : xD) {xa xa1 : xA} (σ : Sg) (ρ : Nat → Nat) (la i : Nat) (h : ∀ j, xa1 20 j = xa 20 j) : mE D xa σ ρ la i = mE D xa1 σ ρ la i := by
  have e : mfs xa σ la = mfs xa1 σ la := by unfold mfs; simp only [h]
  unfold mE
  rw [e]
  try (split <;> rfl)
theorem lG_c {D : xD} {xa xa1 : xA} {σ σ' : Sg} {τ1 : Tg} {ρ : Nat → Nat} {la : Nat} {f f1 : Nat → Int64} (hag : ∀ k i, (k = 0 ∨ 16 ≤ k) → xa1 k i = xa k i) : mG (xGs (G30 D f1) D xa1 σ' τ1) D xa1 σ ρ la = xGs (xup (mG (G30 D f) D xa σ ρ la) 30 0 (.inl (D.2 6, 1, .inr (.inl f1)))) D xa1 σ' τ1 := by
  funext k i
  unfold mG xGs
  by_cases h20 : k = 20
  · subst h20
    rw [if_pos rfl, if_neg (by omega), xup_ne _ _ (by omega), if_pos rfl]
    exact (mE_xa D σ ρ la i (fun j => hag 20 j (by omega))).symm
  · rw [if_neg h20]
    by_cases hk : k < 20
    · rw [if_pos hk, if_pos hk]
    · rw [if_neg hk, if_neg hk]
      by_cases h30 : k = 30 ∧ i = 0
      · obtain ⟨rfl, rfl⟩ := h30
        rw [xup_self]
        exact xup_self _ _ _ _
      · rw [xup_ne _ _ h30, if_neg h20]
        unfold G30
        rw [xup_ne _ _ h30, xup_ne _ _ h30]
theorem G30_O {D : xD} {xa : xA} {σ : Sg} {ρ : Nat → Nat} {la : Nat} {f : Nat → Int64} : mG (G30 D f) D xa σ ρ la 30 0 = some (.inl (D.2 6, 1, .inr (.inl f))) := (if_neg (by omega)).trans (xup_self _ _ _ _)
theorem lG_d {D : xD} {xa xa1 : xA} {σ σ' : Sg} {τ1 : Tg} {ρ : Nat → Nat} {la : Nat} {f : Nat → Int64} (hag : ∀ k i, (k = 0 ∨ 16 ≤ k) → xa1 k i = xa k i) : mG (xGs (G30 D f) D xa1 σ' τ1) D xa1 σ ρ la = xGs (mG (G30 D f) D xa σ ρ la) D xa1 σ' τ1 := by
  rw [lG_c (f := f) hag, xup_same G30_O]
theorem lG_m {D : xD} {xa : xA} {σ σ' : Sg} {τ : Tg} {ρ : Nat → Nat} {la : Nat} {f : Nat → Int64} : xGs (mG (G30 D f) D xa σ ρ la) D xa σ' τ = mG (xGs (G30 D f) D xa σ' τ) D xa σ ρ la := (lG_d (fun _ _ _ => rfl)).symm
theorem l_cmp (x : Int64) : lg_cmp x x = 0 := by simp [lg_cmp]
section XO
variable {p : Program} {l : Launch} {e : Env} {R : Room} {s : State} {m : MethodId} {args : Array Value} {below : List Frame} {meth : Method} {c : Code} {H : Heap} {locs : List Loc} {cells slots : Nat} {Q : State → Prop}
variable {cc : ByteArray} {pc : Nat} {ls : Array Slot} {rest st0 : List Value} {D : xD} {sa : Nat → Nat} {A : Nat → Prop} {xa : xA} {G : xG}
variable {y : MethodName} {bytes : ByteArray} {maxL nL mc ms n index : Nat} {ret : Option FieldType} {ws Ts : List Cond} {rm : Room} {own C : String} {As : List Value} {hh : List (Nat × Nat × Nat × Nat)}
theorem xsw_i {post : Int32 → xA × xG → Prop} (S : CallFix p m c cc nL s args Ts own) (hM : xCi l y ws rm D sa xa G As post mc ms) (cw : vx_CSW R s args own index y bytes maxL ret hh ws rm mc ms n) (hW : xW D sa A s xa G H locs) (hst : st0 = As.reverse ++ rest) (hn : As.length = n) (hls : ls.size = nL) (hroom : (rest.map fun v => v.category).sum ≤ 8) (hdg : decode cc pc = .ok (.invokestatic index, 3)) (hf : cells + mc ≤ R.cells ∧ slots + ms ≤ R.slots)
    (kk : ∀ (r : Int32) (xa1 : xA) (G1 : xG) (H1 : Heap) (locs1 : List Loc), post r (xa1, G1) → xW D sa A s xa1 G1 H1 locs1 → W p l e R s m args below meth c H1 locs1 (cells + mc) (slots + ms) Q (F0 m (pc + 3) ls (.int r :: rest))) : W p l e R s m args below meth c H locs cells slots Q (F0 m pc ls st0) := by
  subst hst
  exact xr_i hW (vx_runSW S (hM H.size) cw hW.preS rfl hn hls rfl (lv_room hroom) hdg hf) kk
theorem l_sld (hexec : p.tables.exec = Jvm.exec) (hb : c.code = cc) {b L : Nat} {xs : Nat → Int32} (hX : va_X b L xs s s.heap) (hbl : b < s.heap.size) (hbA : ¬ A b) (hLL : L ≤ 3072) (hW : xW D sa A s xa G H locs) {j : Nat} (hj : j < L) (hdg : decode cc pc = .ok (.iaload, 1))
    (kk : W p l e R s m args below meth c H locs cells slots Q (F0 m (pc + 1) ls (.int (xs j) :: rest))) : W p l e R s m args below meth c H locs cells slots Q (F0 m pc ls (.int (nI j) :: .ref b :: rest)) := by
  refine va_sld hexec hb hX hbl hbA hW.S (vp_in_nI hj (by omega)) hdg ?_
  rw [nI_clamp (by omega)]
  exact kk
end XO

set_option maxHeartbeats 4000000 in
set_option maxRecDepth 100000 in
theorem op_person (l : Launch) (hst0 : l.stackTraces = false) {p : Program} {e : Env} {s : State} {m : MethodId} {args : Array Value} {below : List Frame} {meth : Method} {c : Code} {H : Heap} {locs : List Loc} {cells slots : Nat} {Q : State → Prop} {ls : Array Slot} {D : xD} {sa : Nat → Nat} {A : Nat → Prop} {xa : xA} {σ : Sg} {τ : Tg} {ρ : Nat → Nat} {la : Nat} {f : Nat → Int64} {b L i : Nat} {xs : Nat → Int32} (hx : p.tables.exec = Jvm.exec) (hb : c.code = cL_law) (hml : c.maxLocals = 7) (hown : s.vm.findClass RL = some m.cls) (hts : ∀ w ∈ wsL_law, w.before args s = true) (hX : va_X b L xs s s.heap) (hbl : b < s.heap.size) (hbA : ¬ A b) (hLL : L ≤ 3072) (hi : i + 6 ≤ L) (hc6 : cells + 6 ≤ 601024) (hs39 : slots + 39 ≤ 7293034) (hW : xW D sa A s xa (lG D xa σ τ ρ la f) H locs) (hg : Gd σ) (hL : LL σ τ) (hT : TE σ τ) (hl : lv_has ls 7 [(0, .ref (b)), (1, .ref (xa 0 0)), (2, .ref (xa 20 0)), (3, .ref (xa 30 0)), (4, .int (nI (i)))])
    (kk : ∀ (xa1 : xA) (σ1 : Sg) (τ1 : Tg) (ρ1 : Nat → Nat) (la1 : Nat) (f1 : Nat → Int64) (H1 : Heap) (locs1 : List Loc) (ls1 : Array Slot), xW D sa A s xa1 (lG D xa1 σ1 τ1 ρ1 la1 f1) H1 locs1 → Gd σ1 → LL σ1 τ1 → TE σ1 τ1 → lv_has ls1 7 [(0, .ref (b)), (1, .ref (xa1 0 0)), (2, .ref (xa1 20 0)), (3, .ref (xa1 30 0)), (4, .int (nI (i)))] → W p l e room_1 s m args below meth c H1 locs1 (cells + 6) (slots + 39) Q (F0 m 1631 ls1 [])) : W p l e room_1 s m args below meth c H locs cells slots Q (F0 m 140 ls []) := by
  refine lv_aload_n hx hb dL_law_140 rfl (lv_at hl 1 rfl) ?_
  refine lv_aload_n hx hb dL_law_141 rfl (lv_at hl 0 rfl) ?_
  refine lv_iload hx hb dL_law_142 (lv_at hl 4 rfl) ?_
  refine lv_iconst (v := nI (1)) hx hb dL_law_144 (by decide +kernel) ?_
  refine lv_iadd hx hb dL_law_145 ?_
  rw [nI_add]
  refine l_sld hx hb hX hbl hbA hLL hW (by omega) dL_law_146 ?_
  refine lv_aload_n hx hb dL_law_147 rfl (lv_at hl 3 rfl) ?_
  refine xsw_i (As := [.ref (xa 0 0), .int (xs (i + 1)), .ref (xa 30 0)]) (rest := []) ⟨hx, hb, hml, hown, hts⟩ (c_L_person l hst0 D sa xa (mG (G30 D f) D xa σ ρ la) σ τ hg hL hT f G30_O (xs (i + 1))) (vx_cwSW (hh := [(0, 9, 12, 13), (0, 9, 15, 15)]) 3 hts gL_law_L_person rfl rfl rfl (by decide +kernel) ⟨Nat.le_of_ble_eq_true rfl, Nat.le_of_ble_eq_true rfl⟩) hW rfl rfl hl.1 (Nat.le_of_ble_eq_true rfl) dL_law_148 ⟨by show cells + 3 ≤ 601024; omega, by show slots + 23 ≤ 7293034; omega⟩ (fun rk xb G9 H locs hp hW => ?_)
  obtain ⟨k, f1, hgk, rfl, xa1, τ1, hag, hu, hL1, hT1, hans⟩ := hp
  have hu2 : G9 = _ := congrArg Prod.snd hu
  subst hu2
  have hu1 : xa1 = xb := (congrArg Prod.fst hu).symm
  subst hu1
  have hW : xW D sa A s xa1 (mG (xGs (G30 D f1) D xa1 (t_person σ (xs (i + 1)) k) τ1) D xa1 σ ρ la) H locs := hW.eqG (lG_c (f := f) hag)
  refine W.widen (k := cells + 6) (n := slots + 39) (by omega) (by omega) ?_
  have hl : lv_has ls 7 [(0, .ref (b)), (1, .ref (xa1 0 0)), (2, .ref (xa1 20 0)), (3, .ref (xa1 30 0)), (4, .int (nI (i)))] := by rw [hag 0 0 (by omega), hag 20 0 (by omega), hag 30 0 (by omega)]; exact hl
  have hk4 := hgk.lt
  have hg1 : Gd (t_person σ (xs (i + 1)) k) := g_person hg hgk
  refine lv_istore (lv' := [(5, .int (nI (k))), (0, .ref (b)), (1, .ref (xa1 0 0)), (2, .ref (xa1 20 0)), (3, .ref (xa1 30 0)), (4, .int (nI (i)))]) hx hb dL_law_151 hl (by decide) rfl (fun ls hl => ?_)
  have hl : lv_has ls 7 [(0, .ref (b)), (1, .ref (xa1 0 0)), (2, .ref (xa1 20 0)), (3, .ref (xa1 30 0)), (4, .int (nI (i))), (5, .int (nI (k)))] := lv_sub hl [1, 2, 3, 4, 5, 0] rfl
  refine lv_aload_n hx hb dL_law_153 rfl (lv_at hl 2 rfl) ?_
  refine lv_aload_n hx hb dL_law_154 rfl (lv_at hl 0 rfl) ?_
  refine lv_iload hx hb dL_law_155 (lv_at hl 4 rfl) ?_
  refine lv_iconst (v := nI (1)) hx hb dL_law_157 (by decide +kernel) ?_
  refine lv_iadd hx hb dL_law_158 ?_
  rw [nI_add]
  refine l_sld hx hb hX hbl hbA hLL hW (by omega) dL_law_159 ?_
  refine xv_i (k := 20) (i := 0) (As := [.int (xs (i + 1))]) (rest := []) ⟨hx, hb, hml, hown, hts⟩ (c_X5_person l D sa xa1 (xGs (G30 D f1) D xa1 (t_person σ (xs (i + 1)) k) τ1) σ ρ la hg.1 hg.2.1.1 (xs (i + 1))) (cwV 1 hts gL_law_X5_person rfl rfl rfl (by decide +kernel) ⟨Nat.le_of_ble_eq_true rfl, Nat.le_of_ble_eq_true rfl⟩) hW (mG_obj _ _ _ _ _ _) rfl rfl rfl rfl hl.1 (Nat.le_of_ble_eq_true rfl) dL_law_160 ⟨by show cells + 6 + 0 ≤ 601024; omega, by show slots + 39 + 0 ≤ 7293034; omega⟩ (fun r2 xb G9 H locs hp hW => ?_)
  obtain ⟨k2, hgk2, hu, hr2⟩ := hp
  cases hu
  have hkk := gk.uniq hgk hgk2
  subst hkk
  refine lv_istore (lv' := [(6, .int (r2)), (0, .ref (b)), (1, .ref (xa1 0 0)), (2, .ref (xa1 20 0)), (3, .ref (xa1 30 0)), (4, .int (nI (i))), (5, .int (nI (k)))]) hx hb dL_law_163 hl (by decide) rfl (fun ls hl => ?_)
  have hl : lv_has ls 7 [(0, .ref (b)), (1, .ref (xa1 0 0)), (2, .ref (xa1 20 0)), (3, .ref (xa1 30 0)), (4, .int (nI (i))), (5, .int (nI (k))), (6, .int (r2))] := lv_sub hl [1, 2, 3, 4, 5, 6, 0] rfl
  refine lv_aload_n hx hb dL_law_165 rfl (lv_at hl 2 rfl) ?_
  refine xv_i (k := 20) (i := 0) (As := []) (rest := []) ⟨hx, hb, hml, hown, hts⟩ (c_X5_thrown l D sa xa1 (xGs (G30 D f1) D xa1 (t_person σ (xs (i + 1)) k) τ1) (t_person σ (xs (i + 1)) k) ρ k hg1) (cwV 0 hts gL_law_X5_thrown rfl rfl rfl (by decide +kernel) ⟨Nat.le_of_ble_eq_true rfl, Nat.le_of_ble_eq_true rfl⟩) hW (mG_obj _ _ _ _ _ _) rfl rfl rfl rfl hl.1 (Nat.le_of_ble_eq_true rfl) dL_law_166 ⟨by show cells + 6 + 0 + 0 ≤ 601024; omega, by show slots + 39 + 0 + 0 ≤ 7293034; omega⟩ (fun r3 xb G9 H locs hp hW => ?_)
  obtain ⟨hu, hr3⟩ := hp
  cases hu
  subst hr3
  refine lv_iload hx hb dL_law_169 (lv_at hl 5 rfl) ?_
  refine lv_icmp_eq (tgt := 176) hx hb dL_law_171 (by decide) (fun c_171 => ?_) (fun c_171 => ?_)
  · -- eq taken
    have c_171 := (x_eqN (a := k) (b := k) (by omega) (by omega)).mp c_171
    refine lv_iload hx hb dL_law_176 (lv_at hl 5 rfl) ?_
    refine lv_if_ne (tgt := 193) hx hb dL_law_178 (by decide) (fun c_178 => ?_) (fun c_178 => ?_)
    · -- ne taken
      have c_178 : ¬ (k = 0) := fun h_ => c_178 ((x_eqZ (a := k) (by omega)).mpr h_)
      refine lv_goto (tgt := 1631) hx hb dL_law_193 (by decide) ?_
      exact kk xa1 (t_person σ (xs (i + 1)) k) τ1 ρ k f1 _ _ _ (hW.eqG lG_m) hg1 hL1 hT1 (lv_sub hl [0, 1, 2, 3, 4] rfl)
    · -- ne not
      have c_178 := (x_eqZ (a := k) (by omega)).mp c_178
      refine lv_aload_n hx hb dL_law_181 rfl (lv_at hl 3 rfl) ?_
      refine lv_iconst (v := nI (0)) hx hb dL_law_182 (by decide +kernel) ?_
      refine x_lld hx hb hW 30 0 (n := 1) (f := f1) ((if_neg (by omega)).trans ((if_neg (by omega)).trans (xup_self _ _ _ _))) 0 rfl (by omega) (by omega) rfl dL_law_183 ?_
      refine lv_iload hx hb dL_law_184 (lv_at hl 6 rfl) ?_
      refine lv_i2l (v := Int32.toInt64 (r2)) hx hb dL_law_186 rfl ?_
      refine W.lcmp hx hb dL_law_187 ?_
      obtain ⟨a_, ha1, ha2⟩ := hans c_178
      have hb2 := hr2 c_178
      have hab : a_ = r2 := Int32.toInt_inj.mp (ha2.trans hb2.symm)
      have heq : f1 0 = Int32.toInt64 (r2) := by rw [ha1, hab]
      rw [heq, l_cmp]
      refine lv_if_eq (tgt := 193) hx hb dL_law_188 (by decide) (fun c_188 => ?_) (fun c_188 => ?_)
      · -- eq taken
        refine lv_goto (tgt := 1631) hx hb dL_law_193 (by decide) ?_
        exact kk xa1 (t_person σ (xs (i + 1)) k) τ1 ρ k f1 _ _ _ (hW.eqG lG_m) hg1 hL1 hT1 (lv_sub hl [0, 1, 2, 3, 4] rfl)
      · -- eq not
        exact absurd rfl c_188
  · -- eq not
    have c_171 : ¬ (k = k) := fun h_ => c_171 ((x_eqN (a := k) (b := k) (by omega) (by omega)).mpr h_)
    exact absurd rfl c_171

set_option maxHeartbeats 4000000 in
set_option maxRecDepth 100000 in
theorem op_die (l : Launch) (hst0 : l.stackTraces = false) {p : Program} {e : Env} {s : State} {m : MethodId} {args : Array Value} {below : List Frame} {meth : Method} {c : Code} {H : Heap} {locs : List Loc} {cells slots : Nat} {Q : State → Prop} {ls : Array Slot} {D : xD} {sa : Nat → Nat} {A : Nat → Prop} {xa : xA} {σ : Sg} {τ : Tg} {ρ : Nat → Nat} {la : Nat} {f : Nat → Int64} {b L i : Nat} {xs : Nat → Int32} (hx : p.tables.exec = Jvm.exec) (hb : c.code = cL_law) (hml : c.maxLocals = 7) (hown : s.vm.findClass RL = some m.cls) (hts : ∀ w ∈ wsL_law, w.before args s = true) (hX : va_X b L xs s s.heap) (hbl : b < s.heap.size) (hbA : ¬ A b) (hLL : L ≤ 3072) (hi : i + 6 ≤ L) (hc6 : cells + 6 ≤ 601024) (hs39 : slots + 39 ≤ 7293034) (hW : xW D sa A s xa (lG D xa σ τ ρ la f) H locs) (hg : Gd σ) (hL : LL σ τ) (hT : TE σ τ) (hl : lv_has ls 7 [(0, .ref (b)), (1, .ref (xa 0 0)), (2, .ref (xa 20 0)), (3, .ref (xa 30 0)), (4, .int (nI (i)))])
    (kk : ∀ (xa1 : xA) (σ1 : Sg) (τ1 : Tg) (ρ1 : Nat → Nat) (la1 : Nat) (f1 : Nat → Int64) (H1 : Heap) (locs1 : List Loc) (ls1 : Array Slot), xW D sa A s xa1 (lG D xa1 σ1 τ1 ρ1 la1 f1) H1 locs1 → Gd σ1 → LL σ1 τ1 → TE σ1 τ1 → lv_has ls1 7 [(0, .ref (b)), (1, .ref (xa1 0 0)), (2, .ref (xa1 20 0)), (3, .ref (xa1 30 0)), (4, .int (nI (i)))] → W p l e room_1 s m args below meth c H1 locs1 (cells + 6) (slots + 39) Q (F0 m 1631 ls1 [])) : W p l e room_1 s m args below meth c H locs cells slots Q (F0 m 196 ls []) := by
  refine lv_aload_n hx hb dL_law_196 rfl (lv_at hl 1 rfl) ?_
  refine lv_aload_n hx hb dL_law_197 rfl (lv_at hl 0 rfl) ?_
  refine lv_iload hx hb dL_law_198 (lv_at hl 4 rfl) ?_
  refine lv_iconst (v := nI (1)) hx hb dL_law_200 (by decide +kernel) ?_
  refine lv_iadd hx hb dL_law_201 ?_
  rw [nI_add]
  refine l_sld hx hb hX hbl hbA hLL hW (by omega) dL_law_202 ?_
  refine xsw_i (As := [.ref (xa 0 0), .int (xs (i + 1))]) (rest := []) ⟨hx, hb, hml, hown, hts⟩ (c_L_die l hst0 D sa xa (mG (G30 D f) D xa σ ρ la) σ τ hg hL hT (xs (i + 1))) (vx_cwSW (hh := [(0, 5, 8, 13), (0, 5, 11, 15)]) 2 hts gL_law_L_die rfl rfl rfl (by decide +kernel) ⟨Nat.le_of_ble_eq_true rfl, Nat.le_of_ble_eq_true rfl⟩) hW rfl rfl hl.1 (Nat.le_of_ble_eq_true rfl) dL_law_203 ⟨by show cells + 2 ≤ 601024; omega, by show slots + 12 ≤ 7293034; omega⟩ (fun rk xb G9 H locs hp hW => ?_)
  obtain ⟨k, hgk, rfl, xa1, τ1, hag, hu, hL1, hT1, hans⟩ := hp
  have hu2 : G9 = _ := congrArg Prod.snd hu
  subst hu2
  have hu1 : xa1 = xb := (congrArg Prod.fst hu).symm
  subst hu1
  have hW : xW D sa A s xa1 (mG (xGs (G30 D f) D xa1 (t_die σ (xs (i + 1)) k) τ1) D xa1 σ ρ la) H locs := hW.eqG (lG_d hag)
  refine W.widen (k := cells + 6) (n := slots + 39) (by omega) (by omega) ?_
  have hl : lv_has ls 7 [(0, .ref (b)), (1, .ref (xa1 0 0)), (2, .ref (xa1 20 0)), (3, .ref (xa1 30 0)), (4, .int (nI (i)))] := by rw [hag 0 0 (by omega), hag 20 0 (by omega), hag 30 0 (by omega)]; exact hl
  have hk4 := hgk.lt
  have hg1 : Gd (t_die σ (xs (i + 1)) k) := g_die hg hgk
  refine lv_istore (lv' := [(5, .int (nI (k))), (0, .ref (b)), (1, .ref (xa1 0 0)), (2, .ref (xa1 20 0)), (3, .ref (xa1 30 0)), (4, .int (nI (i)))]) hx hb dL_law_206 hl (by decide) rfl (fun ls hl => ?_)
  have hl : lv_has ls 7 [(0, .ref (b)), (1, .ref (xa1 0 0)), (2, .ref (xa1 20 0)), (3, .ref (xa1 30 0)), (4, .int (nI (i))), (5, .int (nI (k)))] := lv_sub hl [1, 2, 3, 4, 5, 0] rfl
  refine lv_aload_n hx hb dL_law_208 rfl (lv_at hl 2 rfl) ?_
  refine lv_aload_n hx hb dL_law_209 rfl (lv_at hl 0 rfl) ?_
  refine lv_iload hx hb dL_law_210 (lv_at hl 4 rfl) ?_
  refine lv_iconst (v := nI (1)) hx hb dL_law_212 (by decide +kernel) ?_
  refine lv_iadd hx hb dL_law_213 ?_
  rw [nI_add]
  refine l_sld hx hb hX hbl hbA hLL hW (by omega) dL_law_214 ?_
  refine xv_v (k := 20) (i := 0) (As := [.int (xs (i + 1))]) (rest := []) ⟨hx, hb, hml, hown, hts⟩ (c_X5_die l D sa xa1 (xGs (G30 D f) D xa1 (t_die σ (xs (i + 1)) k) τ1) σ ρ la hg (xs (i + 1))) (cwV 1 hts gL_law_X5_die rfl rfl rfl (by decide +kernel) ⟨Nat.le_of_ble_eq_true rfl, Nat.le_of_ble_eq_true rfl⟩) hW (mG_obj _ _ _ _ _ _) rfl rfl rfl rfl hl.1 (Nat.le_of_ble_eq_true rfl) dL_law_215 ⟨by show cells + 6 + 0 ≤ 601024; omega, by show slots + 39 + 0 ≤ 7293034; omega⟩ (fun xb G9 H locs hp hW => ?_)
  obtain ⟨k2, hgk2, hu⟩ := hp
  cases hu
  have hkk := gk.uniq hgk hgk2
  subst hkk
  refine lv_aload_n hx hb dL_law_218 rfl (lv_at hl 2 rfl) ?_
  refine xv_i (k := 20) (i := 0) (As := []) (rest := []) ⟨hx, hb, hml, hown, hts⟩ (c_X5_thrown l D sa xa1 (xGs (G30 D f) D xa1 (t_die σ (xs (i + 1)) k) τ1) (t_die σ (xs (i + 1)) k) ρ k hg1) (cwV 0 hts gL_law_X5_thrown rfl rfl rfl (by decide +kernel) ⟨Nat.le_of_ble_eq_true rfl, Nat.le_of_ble_eq_true rfl⟩) hW (mG_obj _ _ _ _ _ _) rfl rfl rfl rfl hl.1 (Nat.le_of_ble_eq_true rfl) dL_law_219 ⟨by show cells + 6 + 0 + 0 ≤ 601024; omega, by show slots + 39 + 0 + 0 ≤ 7293034; omega⟩ (fun r3 xb G9 H locs hp hW => ?_)
  obtain ⟨hu, hr3⟩ := hp
  cases hu
  subst hr3
  refine lv_iload hx hb dL_law_222 (lv_at hl 5 rfl) ?_
  refine lv_icmp_eq (tgt := 229) hx hb dL_law_224 (by decide) (fun c_224 => ?_) (fun c_224 => ?_)
  · -- eq taken
    have c_224 := (x_eqN (a := k) (b := k) (by omega) (by omega)).mp c_224
    refine lv_goto (tgt := 1631) hx hb dL_law_229 (by decide) ?_
    exact kk xa1 (t_die σ (xs (i + 1)) k) τ1 ρ k f _ _ _ (hW.eqG lG_m) hg1 hL1 hT1 (lv_sub hl [0, 1, 2, 3, 4] rfl)
  · -- eq not
    have c_224 : ¬ (k = k) := fun h_ => c_224 ((x_eqN (a := k) (b := k) (by omega) (by omega)).mpr h_)
    exact absurd rfl c_224

set_option maxHeartbeats 4000000 in
set_option maxRecDepth 100000 in
theorem op_heir (l : Launch) (hst0 : l.stackTraces = false) {p : Program} {e : Env} {s : State} {m : MethodId} {args : Array Value} {below : List Frame} {meth : Method} {c : Code} {H : Heap} {locs : List Loc} {cells slots : Nat} {Q : State → Prop} {ls : Array Slot} {D : xD} {sa : Nat → Nat} {A : Nat → Prop} {xa : xA} {σ : Sg} {τ : Tg} {ρ : Nat → Nat} {la : Nat} {f : Nat → Int64} {b L i : Nat} {xs : Nat → Int32} (hx : p.tables.exec = Jvm.exec) (hb : c.code = cL_law) (hml : c.maxLocals = 7) (hown : s.vm.findClass RL = some m.cls) (hts : ∀ w ∈ wsL_law, w.before args s = true) (hX : va_X b L xs s s.heap) (hbl : b < s.heap.size) (hbA : ¬ A b) (hLL : L ≤ 3072) (hi : i + 6 ≤ L) (hc6 : cells + 6 ≤ 601024) (hs39 : slots + 39 ≤ 7293034) (hW : xW D sa A s xa (lG D xa σ τ ρ la f) H locs) (hg : Gd σ) (hL : LL σ τ) (hT : TE σ τ) (hl : lv_has ls 7 [(0, .ref (b)), (1, .ref (xa 0 0)), (2, .ref (xa 20 0)), (3, .ref (xa 30 0)), (4, .int (nI (i)))])
    (kk : ∀ (xa1 : xA) (σ1 : Sg) (τ1 : Tg) (ρ1 : Nat → Nat) (la1 : Nat) (f1 : Nat → Int64) (H1 : Heap) (locs1 : List Loc) (ls1 : Array Slot), xW D sa A s xa1 (lG D xa1 σ1 τ1 ρ1 la1 f1) H1 locs1 → Gd σ1 → LL σ1 τ1 → TE σ1 τ1 → lv_has ls1 7 [(0, .ref (b)), (1, .ref (xa1 0 0)), (2, .ref (xa1 20 0)), (3, .ref (xa1 30 0)), (4, .int (nI (i)))] → W p l e room_1 s m args below meth c H1 locs1 (cells + 6) (slots + 39) Q (F0 m 1631 ls1 [])) : W p l e room_1 s m args below meth c H locs cells slots Q (F0 m 232 ls []) := by
  refine lv_aload_n hx hb dL_law_232 rfl (lv_at hl 1 rfl) ?_
  refine lv_aload_n hx hb dL_law_233 rfl (lv_at hl 0 rfl) ?_
  refine lv_iload hx hb dL_law_234 (lv_at hl 4 rfl) ?_
  refine lv_iconst (v := nI (1)) hx hb dL_law_236 (by decide +kernel) ?_
  refine lv_iadd hx hb dL_law_237 ?_
  rw [nI_add]
  refine l_sld hx hb hX hbl hbA hLL hW (by omega) dL_law_238 ?_
  refine lv_aload_n hx hb dL_law_239 rfl (lv_at hl 0 rfl) ?_
  refine lv_iload hx hb dL_law_240 (lv_at hl 4 rfl) ?_
  refine lv_iconst (v := nI (2)) hx hb dL_law_242 (by decide +kernel) ?_
  refine lv_iadd hx hb dL_law_243 ?_
  rw [nI_add]
  refine l_sld hx hb hX hbl hbA hLL hW (by omega) dL_law_244 ?_
  refine lv_aload_n hx hb dL_law_245 rfl (lv_at hl 3 rfl) ?_
  refine xsw_i (As := [.ref (xa 0 0), .int (xs (i + 1)), .int (xs (i + 2)), .ref (xa 30 0)]) (rest := []) ⟨hx, hb, hml, hown, hts⟩ (c_L_heir l hst0 D sa xa (mG (G30 D f) D xa σ ρ la) σ τ hg hL hT f G30_O (xs (i + 1)) (xs (i + 2))) (vx_cwSW (hh := [(0, 10, 13, 13), (0, 10, 17, 25), (0, 10, 21, 15)]) 4 hts gL_law_L_heir rfl rfl rfl (by decide +kernel) ⟨Nat.le_of_ble_eq_true rfl, Nat.le_of_ble_eq_true rfl⟩) hW rfl rfl hl.1 (Nat.le_of_ble_eq_true rfl) dL_law_246 ⟨by show cells + 3 ≤ 601024; omega, by show slots + 18 ≤ 7293034; omega⟩ (fun rk xb G9 H locs hp hW => ?_)
  obtain ⟨k, f1, hgk, rfl, xa1, τ1, hag, hu, hL1, hT1, hans⟩ := hp
  have hu2 : G9 = _ := congrArg Prod.snd hu
  subst hu2
  have hu1 : xa1 = xb := (congrArg Prod.fst hu).symm
  subst hu1
  have hW : xW D sa A s xa1 (mG (xGs (G30 D f1) D xa1 (t_heir σ (xs (i + 1)) (xs (i + 2)) k) τ1) D xa1 σ ρ la) H locs := hW.eqG (lG_c (f := f) hag)
  refine W.widen (k := cells + 6) (n := slots + 39) (by omega) (by omega) ?_
  have hl : lv_has ls 7 [(0, .ref (b)), (1, .ref (xa1 0 0)), (2, .ref (xa1 20 0)), (3, .ref (xa1 30 0)), (4, .int (nI (i)))] := by rw [hag 0 0 (by omega), hag 20 0 (by omega), hag 30 0 (by omega)]; exact hl
  have hk4 := hgk.lt
  have hg1 : Gd (t_heir σ (xs (i + 1)) (xs (i + 2)) k) := g_heir hg (fun hk0 => by
    subst hk0
    obtain ⟨⟨z1, z2⟩, z3, z4⟩ := hgk.zero
    refine Nat.lt_of_not_le fun h11 => z4 (told_all hg (pP_xn z1) (pP_xn z2) (fun hz => z3 ?_) h11)
    unfold pP at z1 z2; unfold xn at hz; omega) hgk
  refine lv_istore (lv' := [(5, .int (nI (k))), (0, .ref (b)), (1, .ref (xa1 0 0)), (2, .ref (xa1 20 0)), (3, .ref (xa1 30 0)), (4, .int (nI (i)))]) hx hb dL_law_249 hl (by decide) rfl (fun ls hl => ?_)
  have hl : lv_has ls 7 [(0, .ref (b)), (1, .ref (xa1 0 0)), (2, .ref (xa1 20 0)), (3, .ref (xa1 30 0)), (4, .int (nI (i))), (5, .int (nI (k)))] := lv_sub hl [1, 2, 3, 4, 5, 0] rfl
  refine lv_aload_n hx hb dL_law_251 rfl (lv_at hl 2 rfl) ?_
  refine lv_aload_n hx hb dL_law_252 rfl (lv_at hl 0 rfl) ?_
  refine lv_iload hx hb dL_law_253 (lv_at hl 4 rfl) ?_
  refine lv_iconst (v := nI (1)) hx hb dL_law_255 (by decide +kernel) ?_
  refine lv_iadd hx hb dL_law_256 ?_
  rw [nI_add]
  refine l_sld hx hb hX hbl hbA hLL hW (by omega) dL_law_257 ?_
  refine lv_aload_n hx hb dL_law_258 rfl (lv_at hl 0 rfl) ?_
  refine lv_iload hx hb dL_law_259 (lv_at hl 4 rfl) ?_
  refine lv_iconst (v := nI (2)) hx hb dL_law_261 (by decide +kernel) ?_
  refine lv_iadd hx hb dL_law_262 ?_
  rw [nI_add]
  refine l_sld hx hb hX hbl hbA hLL hW (by omega) dL_law_263 ?_
  refine xv_i (k := 20) (i := 0) (As := [.int (xs (i + 1)), .int (xs (i + 2))]) (rest := []) ⟨hx, hb, hml, hown, hts⟩ (c_X5_heir l D sa xa1 (xGs (G30 D f1) D xa1 (t_heir σ (xs (i + 1)) (xs (i + 2)) k) τ1) σ ρ la hg (xs (i + 1)) (xs (i + 2))) (cwV 2 hts gL_law_X5_heir rfl rfl rfl (by decide +kernel) ⟨Nat.le_of_ble_eq_true rfl, Nat.le_of_ble_eq_true rfl⟩) hW (mG_obj _ _ _ _ _ _) rfl rfl rfl rfl hl.1 (Nat.le_of_ble_eq_true rfl) dL_law_264 ⟨by show cells + 6 + 0 ≤ 601024; omega, by show slots + 39 + 0 ≤ 7293034; omega⟩ (fun r2 xb G9 H locs hp hW => ?_)
  obtain ⟨k2, hgk2, hu, hr2⟩ := hp
  cases hu
  have hkk := gk.uniq hgk hgk2
  subst hkk
  refine lv_istore (lv' := [(6, .int (r2)), (0, .ref (b)), (1, .ref (xa1 0 0)), (2, .ref (xa1 20 0)), (3, .ref (xa1 30 0)), (4, .int (nI (i))), (5, .int (nI (k)))]) hx hb dL_law_267 hl (by decide) rfl (fun ls hl => ?_)
  have hl : lv_has ls 7 [(0, .ref (b)), (1, .ref (xa1 0 0)), (2, .ref (xa1 20 0)), (3, .ref (xa1 30 0)), (4, .int (nI (i))), (5, .int (nI (k))), (6, .int (r2))] := lv_sub hl [1, 2, 3, 4, 5, 6, 0] rfl
  refine lv_aload_n hx hb dL_law_269 rfl (lv_at hl 2 rfl) ?_
  refine xv_i (k := 20) (i := 0) (As := []) (rest := []) ⟨hx, hb, hml, hown, hts⟩ (c_X5_thrown l D sa xa1 (xGs (G30 D f1) D xa1 (t_heir σ (xs (i + 1)) (xs (i + 2)) k) τ1) (t_heir σ (xs (i + 1)) (xs (i + 2)) k) ρ k hg1) (cwV 0 hts gL_law_X5_thrown rfl rfl rfl (by decide +kernel) ⟨Nat.le_of_ble_eq_true rfl, Nat.le_of_ble_eq_true rfl⟩) hW (mG_obj _ _ _ _ _ _) rfl rfl rfl rfl hl.1 (Nat.le_of_ble_eq_true rfl) dL_law_270 ⟨by show cells + 6 + 0 + 0 ≤ 601024; omega, by show slots + 39 + 0 + 0 ≤ 7293034; omega⟩ (fun r3 xb G9 H locs hp hW => ?_)
  obtain ⟨hu, hr3⟩ := hp
  cases hu
  subst hr3
  refine lv_iload hx hb dL_law_273 (lv_at hl 5 rfl) ?_
  refine lv_icmp_eq (tgt := 280) hx hb dL_law_275 (by decide) (fun c_275 => ?_) (fun c_275 => ?_)
  · -- eq taken
    have c_275 := (x_eqN (a := k) (b := k) (by omega) (by omega)).mp c_275
    refine lv_iload hx hb dL_law_280 (lv_at hl 5 rfl) ?_
    refine lv_if_ne (tgt := 297) hx hb dL_law_282 (by decide) (fun c_282 => ?_) (fun c_282 => ?_)
    · -- ne taken
      have c_282 : ¬ (k = 0) := fun h_ => c_282 ((x_eqZ (a := k) (by omega)).mpr h_)
      refine lv_goto (tgt := 1631) hx hb dL_law_297 (by decide) ?_
      exact kk xa1 (t_heir σ (xs (i + 1)) (xs (i + 2)) k) τ1 ρ k f1 _ _ _ (hW.eqG lG_m) hg1 hL1 hT1 (lv_sub hl [0, 1, 2, 3, 4] rfl)
    · -- ne not
      have c_282 := (x_eqZ (a := k) (by omega)).mp c_282
      refine lv_aload_n hx hb dL_law_285 rfl (lv_at hl 3 rfl) ?_
      refine lv_iconst (v := nI (0)) hx hb dL_law_286 (by decide +kernel) ?_
      refine x_lld hx hb hW 30 0 (n := 1) (f := f1) ((if_neg (by omega)).trans ((if_neg (by omega)).trans (xup_self _ _ _ _))) 0 rfl (by omega) (by omega) rfl dL_law_287 ?_
      refine lv_iload hx hb dL_law_288 (lv_at hl 6 rfl) ?_
      refine lv_i2l (v := Int32.toInt64 (r2)) hx hb dL_law_290 rfl ?_
      refine W.lcmp hx hb dL_law_291 ?_
      obtain ⟨a_, ha1, ha2⟩ := hans c_282
      have hb2 := hr2 c_282
      have hab : a_ = r2 := Int32.toInt_inj.mp (ha2.trans hb2.symm)
      have heq : f1 0 = Int32.toInt64 (r2) := by rw [ha1, hab]
      rw [heq, l_cmp]
      refine lv_if_eq (tgt := 297) hx hb dL_law_292 (by decide) (fun c_292 => ?_) (fun c_292 => ?_)
      · -- eq taken
        refine lv_goto (tgt := 1631) hx hb dL_law_297 (by decide) ?_
        exact kk xa1 (t_heir σ (xs (i + 1)) (xs (i + 2)) k) τ1 ρ k f1 _ _ _ (hW.eqG lG_m) hg1 hL1 hT1 (lv_sub hl [0, 1, 2, 3, 4] rfl)
      · -- eq not
        exact absurd rfl c_292
  · -- eq not
    have c_275 : ¬ (k = k) := fun h_ => c_275 ((x_eqN (a := k) (b := k) (by omega) (by omega)).mpr h_)
    exact absurd rfl c_275

set_option maxHeartbeats 4000000 in
set_option maxRecDepth 100000 in
theorem op_persecution (l : Launch) (hst0 : l.stackTraces = false) {p : Program} {e : Env} {s : State} {m : MethodId} {args : Array Value} {below : List Frame} {meth : Method} {c : Code} {H : Heap} {locs : List Loc} {cells slots : Nat} {Q : State → Prop} {ls : Array Slot} {D : xD} {sa : Nat → Nat} {A : Nat → Prop} {xa : xA} {σ : Sg} {τ : Tg} {ρ : Nat → Nat} {la : Nat} {f : Nat → Int64} {b L i : Nat} {xs : Nat → Int32} (hx : p.tables.exec = Jvm.exec) (hb : c.code = cL_law) (hml : c.maxLocals = 7) (hown : s.vm.findClass RL = some m.cls) (hts : ∀ w ∈ wsL_law, w.before args s = true) (hX : va_X b L xs s s.heap) (hbl : b < s.heap.size) (hbA : ¬ A b) (hLL : L ≤ 3072) (hi : i + 6 ≤ L) (hc6 : cells + 6 ≤ 601024) (hs39 : slots + 39 ≤ 7293034) (hW : xW D sa A s xa (lG D xa σ τ ρ la f) H locs) (hg : Gd σ) (hL : LL σ τ) (hT : TE σ τ) (hl : lv_has ls 7 [(0, .ref (b)), (1, .ref (xa 0 0)), (2, .ref (xa 20 0)), (3, .ref (xa 30 0)), (4, .int (nI (i)))])
    (kk : ∀ (xa1 : xA) (σ1 : Sg) (τ1 : Tg) (ρ1 : Nat → Nat) (la1 : Nat) (f1 : Nat → Int64) (H1 : Heap) (locs1 : List Loc) (ls1 : Array Slot), xW D sa A s xa1 (lG D xa1 σ1 τ1 ρ1 la1 f1) H1 locs1 → Gd σ1 → LL σ1 τ1 → TE σ1 τ1 → lv_has ls1 7 [(0, .ref (b)), (1, .ref (xa1 0 0)), (2, .ref (xa1 20 0)), (3, .ref (xa1 30 0)), (4, .int (nI (i)))] → W p l e room_1 s m args below meth c H1 locs1 (cells + 6) (slots + 39) Q (F0 m 1631 ls1 [])) : W p l e room_1 s m args below meth c H locs cells slots Q (F0 m 300 ls []) := by
  refine lv_aload_n hx hb dL_law_300 rfl (lv_at hl 1 rfl) ?_
  refine lv_aload_n hx hb dL_law_301 rfl (lv_at hl 0 rfl) ?_
  refine lv_iload hx hb dL_law_302 (lv_at hl 4 rfl) ?_
  refine lv_iconst (v := nI (1)) hx hb dL_law_304 (by decide +kernel) ?_
  refine lv_iadd hx hb dL_law_305 ?_
  rw [nI_add]
  refine l_sld hx hb hX hbl hbA hLL hW (by omega) dL_law_306 ?_
  refine lv_aload_n hx hb dL_law_307 rfl (lv_at hl 0 rfl) ?_
  refine lv_iload hx hb dL_law_308 (lv_at hl 4 rfl) ?_
  refine lv_iconst (v := nI (2)) hx hb dL_law_310 (by decide +kernel) ?_
  refine lv_iadd hx hb dL_law_311 ?_
  rw [nI_add]
  refine l_sld hx hb hX hbl hbA hLL hW (by omega) dL_law_312 ?_
  refine lv_aload_n hx hb dL_law_313 rfl (lv_at hl 0 rfl) ?_
  refine lv_iload hx hb dL_law_314 (lv_at hl 4 rfl) ?_
  refine lv_iconst (v := nI (3)) hx hb dL_law_316 (by decide +kernel) ?_
  refine lv_iadd hx hb dL_law_317 ?_
  rw [nI_add]
  refine l_sld hx hb hX hbl hbA hLL hW (by omega) dL_law_318 ?_
  refine lv_aload_n hx hb dL_law_319 rfl (lv_at hl 0 rfl) ?_
  refine lv_iload hx hb dL_law_320 (lv_at hl 4 rfl) ?_
  refine lv_iconst (v := nI (4)) hx hb dL_law_322 (by decide +kernel) ?_
  refine lv_iadd hx hb dL_law_323 ?_
  rw [nI_add]
  refine l_sld hx hb hX hbl hbA hLL hW (by omega) dL_law_324 ?_
  refine lv_aload_n hx hb dL_law_325 rfl (lv_at hl 3 rfl) ?_
  refine xsw_i (As := [.ref (xa 0 0), .int (xs (i + 1)), .int (xs (i + 2)), .int (xs (i + 3)), .int (xs (i + 4)), .ref (xa 30 0)]) (rest := []) ⟨hx, hb, hml, hown, hts⟩ (c_L_persecution l hst0 D sa xa (mG (G30 D f) D xa σ ρ la) σ τ hg hL hT f G30_O (xs (i + 1)) (xs (i + 2)) (xs (i + 3)) (xs (i + 4))) (vx_cwSW (hh := [(0, 14, 17, 13), (0, 14, 21, 25), (0, 14, 25, 15)]) 6 hts gL_law_L_persecution rfl rfl rfl (by decide +kernel) ⟨Nat.le_of_ble_eq_true rfl, Nat.le_of_ble_eq_true rfl⟩) hW rfl rfl hl.1 (Nat.le_of_ble_eq_true rfl) dL_law_326 ⟨by show cells + 5 ≤ 601024; omega, by show slots + 30 ≤ 7293034; omega⟩ (fun rk xb G9 H locs hp hW => ?_)
  obtain ⟨k, f1, hgk, rfl, xa1, τ1, hag, hu, hL1, hT1, hans⟩ := hp
  have hu2 : G9 = _ := congrArg Prod.snd hu
  subst hu2
  have hu1 : xa1 = xb := (congrArg Prod.fst hu).symm
  subst hu1
  have hW : xW D sa A s xa1 (mG (xGs (G30 D f1) D xa1 (t_persecution σ (xs (i + 1)) (xs (i + 2)) (xs (i + 3)) (xs (i + 4)) k) τ1) D xa1 σ ρ la) H locs := hW.eqG (lG_c (f := f) hag)
  refine W.widen (k := cells + 6) (n := slots + 39) (by omega) (by omega) ?_
  have hl : lv_has ls 7 [(0, .ref (b)), (1, .ref (xa1 0 0)), (2, .ref (xa1 20 0)), (3, .ref (xa1 30 0)), (4, .int (nI (i)))] := by rw [hag 0 0 (by omega), hag 20 0 (by omega), hag 30 0 (by omega)]; exact hl
  have hk4 := hgk.lt
  have hg1 : Gd (t_persecution σ (xs (i + 1)) (xs (i + 2)) (xs (i + 3)) (xs (i + 4)) k) := g_persecution hg hgk
  refine lv_istore (lv' := [(5, .int (nI (k))), (0, .ref (b)), (1, .ref (xa1 0 0)), (2, .ref (xa1 20 0)), (3, .ref (xa1 30 0)), (4, .int (nI (i)))]) hx hb dL_law_329 hl (by decide) rfl (fun ls hl => ?_)
  have hl : lv_has ls 7 [(0, .ref (b)), (1, .ref (xa1 0 0)), (2, .ref (xa1 20 0)), (3, .ref (xa1 30 0)), (4, .int (nI (i))), (5, .int (nI (k)))] := lv_sub hl [1, 2, 3, 4, 5, 0] rfl
  refine lv_aload_n hx hb dL_law_331 rfl (lv_at hl 2 rfl) ?_
  refine lv_aload_n hx hb dL_law_332 rfl (lv_at hl 0 rfl) ?_
  refine lv_iload hx hb dL_law_333 (lv_at hl 4 rfl) ?_
  refine lv_iconst (v := nI (1)) hx hb dL_law_335 (by decide +kernel) ?_
  refine lv_iadd hx hb dL_law_336 ?_
  rw [nI_add]
  refine l_sld hx hb hX hbl hbA hLL hW (by omega) dL_law_337 ?_
  refine lv_aload_n hx hb dL_law_338 rfl (lv_at hl 0 rfl) ?_
  refine lv_iload hx hb dL_law_339 (lv_at hl 4 rfl) ?_
  refine lv_iconst (v := nI (2)) hx hb dL_law_341 (by decide +kernel) ?_
  refine lv_iadd hx hb dL_law_342 ?_
  rw [nI_add]
  refine l_sld hx hb hX hbl hbA hLL hW (by omega) dL_law_343 ?_
  refine lv_aload_n hx hb dL_law_344 rfl (lv_at hl 0 rfl) ?_
  refine lv_iload hx hb dL_law_345 (lv_at hl 4 rfl) ?_
  refine lv_iconst (v := nI (3)) hx hb dL_law_347 (by decide +kernel) ?_
  refine lv_iadd hx hb dL_law_348 ?_
  rw [nI_add]
  refine l_sld hx hb hX hbl hbA hLL hW (by omega) dL_law_349 ?_
  refine lv_aload_n hx hb dL_law_350 rfl (lv_at hl 0 rfl) ?_
  refine lv_iload hx hb dL_law_351 (lv_at hl 4 rfl) ?_
  refine lv_iconst (v := nI (4)) hx hb dL_law_353 (by decide +kernel) ?_
  refine lv_iadd hx hb dL_law_354 ?_
  rw [nI_add]
  refine l_sld hx hb hX hbl hbA hLL hW (by omega) dL_law_355 ?_
  refine xv_i (k := 20) (i := 0) (As := [.int (xs (i + 1)), .int (xs (i + 2)), .int (xs (i + 3)), .int (xs (i + 4))]) (rest := []) ⟨hx, hb, hml, hown, hts⟩ (c_X5_persecution l D sa xa1 (xGs (G30 D f1) D xa1 (t_persecution σ (xs (i + 1)) (xs (i + 2)) (xs (i + 3)) (xs (i + 4)) k) τ1) σ ρ la hg (xs (i + 1)) (xs (i + 2)) (xs (i + 3)) (xs (i + 4))) (cwV 4 hts gL_law_X5_persecution rfl rfl rfl (by decide +kernel) ⟨Nat.le_of_ble_eq_true rfl, Nat.le_of_ble_eq_true rfl⟩) hW (mG_obj _ _ _ _ _ _) rfl rfl rfl rfl hl.1 (Nat.le_of_ble_eq_true rfl) dL_law_356 ⟨by show cells + 6 + 0 ≤ 601024; omega, by show slots + 39 + 0 ≤ 7293034; omega⟩ (fun r2 xb G9 H locs hp hW => ?_)
  obtain ⟨k2, hgk2, hu, hr2⟩ := hp
  cases hu
  have hkk := gk.uniq hgk hgk2
  subst hkk
  refine lv_istore (lv' := [(6, .int (r2)), (0, .ref (b)), (1, .ref (xa1 0 0)), (2, .ref (xa1 20 0)), (3, .ref (xa1 30 0)), (4, .int (nI (i))), (5, .int (nI (k)))]) hx hb dL_law_359 hl (by decide) rfl (fun ls hl => ?_)
  have hl : lv_has ls 7 [(0, .ref (b)), (1, .ref (xa1 0 0)), (2, .ref (xa1 20 0)), (3, .ref (xa1 30 0)), (4, .int (nI (i))), (5, .int (nI (k))), (6, .int (r2))] := lv_sub hl [1, 2, 3, 4, 5, 6, 0] rfl
  refine lv_aload_n hx hb dL_law_361 rfl (lv_at hl 2 rfl) ?_
  refine xv_i (k := 20) (i := 0) (As := []) (rest := []) ⟨hx, hb, hml, hown, hts⟩ (c_X5_thrown l D sa xa1 (xGs (G30 D f1) D xa1 (t_persecution σ (xs (i + 1)) (xs (i + 2)) (xs (i + 3)) (xs (i + 4)) k) τ1) (t_persecution σ (xs (i + 1)) (xs (i + 2)) (xs (i + 3)) (xs (i + 4)) k) ρ k hg1) (cwV 0 hts gL_law_X5_thrown rfl rfl rfl (by decide +kernel) ⟨Nat.le_of_ble_eq_true rfl, Nat.le_of_ble_eq_true rfl⟩) hW (mG_obj _ _ _ _ _ _) rfl rfl rfl rfl hl.1 (Nat.le_of_ble_eq_true rfl) dL_law_362 ⟨by show cells + 6 + 0 + 0 ≤ 601024; omega, by show slots + 39 + 0 + 0 ≤ 7293034; omega⟩ (fun r3 xb G9 H locs hp hW => ?_)
  obtain ⟨hu, hr3⟩ := hp
  cases hu
  subst hr3
  refine lv_iload hx hb dL_law_365 (lv_at hl 5 rfl) ?_
  refine lv_icmp_eq (tgt := 372) hx hb dL_law_367 (by decide) (fun c_367 => ?_) (fun c_367 => ?_)
  · -- eq taken
    have c_367 := (x_eqN (a := k) (b := k) (by omega) (by omega)).mp c_367
    refine lv_iload hx hb dL_law_372 (lv_at hl 5 rfl) ?_
    refine lv_if_ne (tgt := 389) hx hb dL_law_374 (by decide) (fun c_374 => ?_) (fun c_374 => ?_)
    · -- ne taken
      have c_374 : ¬ (k = 0) := fun h_ => c_374 ((x_eqZ (a := k) (by omega)).mpr h_)
      refine lv_goto (tgt := 1631) hx hb dL_law_389 (by decide) ?_
      exact kk xa1 (t_persecution σ (xs (i + 1)) (xs (i + 2)) (xs (i + 3)) (xs (i + 4)) k) τ1 ρ k f1 _ _ _ (hW.eqG lG_m) hg1 hL1 hT1 (lv_sub hl [0, 1, 2, 3, 4] rfl)
    · -- ne not
      have c_374 := (x_eqZ (a := k) (by omega)).mp c_374
      refine lv_aload_n hx hb dL_law_377 rfl (lv_at hl 3 rfl) ?_
      refine lv_iconst (v := nI (0)) hx hb dL_law_378 (by decide +kernel) ?_
      refine x_lld hx hb hW 30 0 (n := 1) (f := f1) ((if_neg (by omega)).trans ((if_neg (by omega)).trans (xup_self _ _ _ _))) 0 rfl (by omega) (by omega) rfl dL_law_379 ?_
      refine lv_iload hx hb dL_law_380 (lv_at hl 6 rfl) ?_
      refine lv_i2l (v := Int32.toInt64 (r2)) hx hb dL_law_382 rfl ?_
      refine W.lcmp hx hb dL_law_383 ?_
      obtain ⟨a_, ha1, ha2⟩ := hans c_374
      have hb2 := hr2 c_374
      have hab : a_ = r2 := Int32.toInt_inj.mp (ha2.trans hb2.symm)
      have heq : f1 0 = Int32.toInt64 (r2) := by rw [ha1, hab]
      rw [heq, l_cmp]
      refine lv_if_eq (tgt := 389) hx hb dL_law_384 (by decide) (fun c_384 => ?_) (fun c_384 => ?_)
      · -- eq taken
        refine lv_goto (tgt := 1631) hx hb dL_law_389 (by decide) ?_
        exact kk xa1 (t_persecution σ (xs (i + 1)) (xs (i + 2)) (xs (i + 3)) (xs (i + 4)) k) τ1 ρ k f1 _ _ _ (hW.eqG lG_m) hg1 hL1 hT1 (lv_sub hl [0, 1, 2, 3, 4] rfl)
      · -- eq not
        exact absurd rfl c_384
  · -- eq not
    have c_367 : ¬ (k = k) := fun h_ => c_367 ((x_eqN (a := k) (b := k) (by omega) (by omega)).mpr h_)
    exact absurd rfl c_367

set_option maxHeartbeats 4000000 in
set_option maxRecDepth 100000 in
theorem op_faith (l : Launch) (hst0 : l.stackTraces = false) {p : Program} {e : Env} {s : State} {m : MethodId} {args : Array Value} {below : List Frame} {meth : Method} {c : Code} {H : Heap} {locs : List Loc} {cells slots : Nat} {Q : State → Prop} {ls : Array Slot} {D : xD} {sa : Nat → Nat} {A : Nat → Prop} {xa : xA} {σ : Sg} {τ : Tg} {ρ : Nat → Nat} {la : Nat} {f : Nat → Int64} {b L i : Nat} {xs : Nat → Int32} (hx : p.tables.exec = Jvm.exec) (hb : c.code = cL_law) (hml : c.maxLocals = 7) (hown : s.vm.findClass RL = some m.cls) (hts : ∀ w ∈ wsL_law, w.before args s = true) (hX : va_X b L xs s s.heap) (hbl : b < s.heap.size) (hbA : ¬ A b) (hLL : L ≤ 3072) (hi : i + 6 ≤ L) (hc6 : cells + 6 ≤ 601024) (hs39 : slots + 39 ≤ 7293034) (hW : xW D sa A s xa (lG D xa σ τ ρ la f) H locs) (hg : Gd σ) (hL : LL σ τ) (hT : TE σ τ) (hl : lv_has ls 7 [(0, .ref (b)), (1, .ref (xa 0 0)), (2, .ref (xa 20 0)), (3, .ref (xa 30 0)), (4, .int (nI (i)))])
    (kk : ∀ (xa1 : xA) (σ1 : Sg) (τ1 : Tg) (ρ1 : Nat → Nat) (la1 : Nat) (f1 : Nat → Int64) (H1 : Heap) (locs1 : List Loc) (ls1 : Array Slot), xW D sa A s xa1 (lG D xa1 σ1 τ1 ρ1 la1 f1) H1 locs1 → Gd σ1 → LL σ1 τ1 → TE σ1 τ1 → lv_has ls1 7 [(0, .ref (b)), (1, .ref (xa1 0 0)), (2, .ref (xa1 20 0)), (3, .ref (xa1 30 0)), (4, .int (nI (i)))] → W p l e room_1 s m args below meth c H1 locs1 (cells + 6) (slots + 39) Q (F0 m 1631 ls1 [])) : W p l e room_1 s m args below meth c H locs cells slots Q (F0 m 392 ls []) := by
  refine lv_aload_n hx hb dL_law_392 rfl (lv_at hl 1 rfl) ?_
  refine lv_aload_n hx hb dL_law_393 rfl (lv_at hl 0 rfl) ?_
  refine lv_iload hx hb dL_law_394 (lv_at hl 4 rfl) ?_
  refine lv_iconst (v := nI (1)) hx hb dL_law_396 (by decide +kernel) ?_
  refine lv_iadd hx hb dL_law_397 ?_
  rw [nI_add]
  refine l_sld hx hb hX hbl hbA hLL hW (by omega) dL_law_398 ?_
  refine lv_aload_n hx hb dL_law_399 rfl (lv_at hl 0 rfl) ?_
  refine lv_iload hx hb dL_law_400 (lv_at hl 4 rfl) ?_
  refine lv_iconst (v := nI (2)) hx hb dL_law_402 (by decide +kernel) ?_
  refine lv_iadd hx hb dL_law_403 ?_
  rw [nI_add]
  refine l_sld hx hb hX hbl hbA hLL hW (by omega) dL_law_404 ?_
  refine lv_aload_n hx hb dL_law_405 rfl (lv_at hl 3 rfl) ?_
  refine xsw_i (As := [.ref (xa 0 0), .int (xs (i + 1)), .int (xs (i + 2)), .ref (xa 30 0)]) (rest := []) ⟨hx, hb, hml, hown, hts⟩ (c_L_faith l hst0 D sa xa (mG (G30 D f) D xa σ ρ la) σ τ hg hL hT f G30_O (xs (i + 1)) (xs (i + 2))) (vx_cwSW (hh := [(0, 10, 13, 13), (0, 10, 17, 25)]) 4 hts gL_law_L_faith rfl rfl rfl (by decide +kernel) ⟨Nat.le_of_ble_eq_true rfl, Nat.le_of_ble_eq_true rfl⟩) hW rfl rfl hl.1 (Nat.le_of_ble_eq_true rfl) dL_law_406 ⟨by show cells + 2 ≤ 601024; omega, by show slots + 12 ≤ 7293034; omega⟩ (fun rk xb G9 H locs hp hW => ?_)
  obtain ⟨k, f1, hgk, rfl, xa1, τ1, hag, hu, hL1, hT1, hans⟩ := hp
  have hu2 : G9 = _ := congrArg Prod.snd hu
  subst hu2
  have hu1 : xa1 = xb := (congrArg Prod.fst hu).symm
  subst hu1
  have hW : xW D sa A s xa1 (mG (xGs (G30 D f1) D xa1 (t_faith σ (xs (i + 1)) (xs (i + 2)) k) τ1) D xa1 σ ρ la) H locs := hW.eqG (lG_c (f := f) hag)
  refine W.widen (k := cells + 6) (n := slots + 39) (by omega) (by omega) ?_
  have hl : lv_has ls 7 [(0, .ref (b)), (1, .ref (xa1 0 0)), (2, .ref (xa1 20 0)), (3, .ref (xa1 30 0)), (4, .int (nI (i)))] := by rw [hag 0 0 (by omega), hag 20 0 (by omega), hag 30 0 (by omega)]; exact hl
  have hk4 := hgk.lt
  have hg1 : Gd (t_faith σ (xs (i + 1)) (xs (i + 2)) k) := g_faith hg hgk
  refine lv_istore (lv' := [(5, .int (nI (k))), (0, .ref (b)), (1, .ref (xa1 0 0)), (2, .ref (xa1 20 0)), (3, .ref (xa1 30 0)), (4, .int (nI (i)))]) hx hb dL_law_409 hl (by decide) rfl (fun ls hl => ?_)
  have hl : lv_has ls 7 [(0, .ref (b)), (1, .ref (xa1 0 0)), (2, .ref (xa1 20 0)), (3, .ref (xa1 30 0)), (4, .int (nI (i))), (5, .int (nI (k)))] := lv_sub hl [1, 2, 3, 4, 5, 0] rfl
  refine lv_aload_n hx hb dL_law_411 rfl (lv_at hl 2 rfl) ?_
  refine lv_aload_n hx hb dL_law_412 rfl (lv_at hl 0 rfl) ?_
  refine lv_iload hx hb dL_law_413 (lv_at hl 4 rfl) ?_
  refine lv_iconst (v := nI (1)) hx hb dL_law_415 (by decide +kernel) ?_
  refine lv_iadd hx hb dL_law_416 ?_
  rw [nI_add]
  refine l_sld hx hb hX hbl hbA hLL hW (by omega) dL_law_417 ?_
  refine lv_aload_n hx hb dL_law_418 rfl (lv_at hl 0 rfl) ?_
  refine lv_iload hx hb dL_law_419 (lv_at hl 4 rfl) ?_
  refine lv_iconst (v := nI (2)) hx hb dL_law_421 (by decide +kernel) ?_
  refine lv_iadd hx hb dL_law_422 ?_
  rw [nI_add]
  refine l_sld hx hb hX hbl hbA hLL hW (by omega) dL_law_423 ?_
  refine xv_i (k := 20) (i := 0) (As := [.int (xs (i + 1)), .int (xs (i + 2))]) (rest := []) ⟨hx, hb, hml, hown, hts⟩ (c_X5_faith l D sa xa1 (xGs (G30 D f1) D xa1 (t_faith σ (xs (i + 1)) (xs (i + 2)) k) τ1) σ ρ la hg (xs (i + 1)) (xs (i + 2))) (cwV 2 hts gL_law_X5_faith rfl rfl rfl (by decide +kernel) ⟨Nat.le_of_ble_eq_true rfl, Nat.le_of_ble_eq_true rfl⟩) hW (mG_obj _ _ _ _ _ _) rfl rfl rfl rfl hl.1 (Nat.le_of_ble_eq_true rfl) dL_law_424 ⟨by show cells + 6 + 0 ≤ 601024; omega, by show slots + 39 + 0 ≤ 7293034; omega⟩ (fun r2 xb G9 H locs hp hW => ?_)
  obtain ⟨k2, hgk2, hu, hr2⟩ := hp
  cases hu
  have hkk := gk.uniq hgk hgk2
  subst hkk
  refine lv_istore (lv' := [(6, .int (r2)), (0, .ref (b)), (1, .ref (xa1 0 0)), (2, .ref (xa1 20 0)), (3, .ref (xa1 30 0)), (4, .int (nI (i))), (5, .int (nI (k)))]) hx hb dL_law_427 hl (by decide) rfl (fun ls hl => ?_)
  have hl : lv_has ls 7 [(0, .ref (b)), (1, .ref (xa1 0 0)), (2, .ref (xa1 20 0)), (3, .ref (xa1 30 0)), (4, .int (nI (i))), (5, .int (nI (k))), (6, .int (r2))] := lv_sub hl [1, 2, 3, 4, 5, 6, 0] rfl
  refine lv_aload_n hx hb dL_law_429 rfl (lv_at hl 2 rfl) ?_
  refine xv_i (k := 20) (i := 0) (As := []) (rest := []) ⟨hx, hb, hml, hown, hts⟩ (c_X5_thrown l D sa xa1 (xGs (G30 D f1) D xa1 (t_faith σ (xs (i + 1)) (xs (i + 2)) k) τ1) (t_faith σ (xs (i + 1)) (xs (i + 2)) k) ρ k hg1) (cwV 0 hts gL_law_X5_thrown rfl rfl rfl (by decide +kernel) ⟨Nat.le_of_ble_eq_true rfl, Nat.le_of_ble_eq_true rfl⟩) hW (mG_obj _ _ _ _ _ _) rfl rfl rfl rfl hl.1 (Nat.le_of_ble_eq_true rfl) dL_law_430 ⟨by show cells + 6 + 0 + 0 ≤ 601024; omega, by show slots + 39 + 0 + 0 ≤ 7293034; omega⟩ (fun r3 xb G9 H locs hp hW => ?_)
  obtain ⟨hu, hr3⟩ := hp
  cases hu
  subst hr3
  refine lv_iload hx hb dL_law_433 (lv_at hl 5 rfl) ?_
  refine lv_icmp_eq (tgt := 440) hx hb dL_law_435 (by decide) (fun c_435 => ?_) (fun c_435 => ?_)
  · -- eq taken
    have c_435 := (x_eqN (a := k) (b := k) (by omega) (by omega)).mp c_435
    refine lv_iload hx hb dL_law_440 (lv_at hl 5 rfl) ?_
    refine lv_if_ne (tgt := 457) hx hb dL_law_442 (by decide) (fun c_442 => ?_) (fun c_442 => ?_)
    · -- ne taken
      have c_442 : ¬ (k = 0) := fun h_ => c_442 ((x_eqZ (a := k) (by omega)).mpr h_)
      refine lv_goto (tgt := 1631) hx hb dL_law_457 (by decide) ?_
      exact kk xa1 (t_faith σ (xs (i + 1)) (xs (i + 2)) k) τ1 ρ k f1 _ _ _ (hW.eqG lG_m) hg1 hL1 hT1 (lv_sub hl [0, 1, 2, 3, 4] rfl)
    · -- ne not
      have c_442 := (x_eqZ (a := k) (by omega)).mp c_442
      refine lv_aload_n hx hb dL_law_445 rfl (lv_at hl 3 rfl) ?_
      refine lv_iconst (v := nI (0)) hx hb dL_law_446 (by decide +kernel) ?_
      refine x_lld hx hb hW 30 0 (n := 1) (f := f1) ((if_neg (by omega)).trans ((if_neg (by omega)).trans (xup_self _ _ _ _))) 0 rfl (by omega) (by omega) rfl dL_law_447 ?_
      refine lv_iload hx hb dL_law_448 (lv_at hl 6 rfl) ?_
      refine lv_i2l (v := Int32.toInt64 (r2)) hx hb dL_law_450 rfl ?_
      refine W.lcmp hx hb dL_law_451 ?_
      obtain ⟨a_, ha1, ha2⟩ := hans c_442
      have hb2 := hr2 c_442
      have hab : a_ = r2 := Int32.toInt_inj.mp (ha2.trans hb2.symm)
      have heq : f1 0 = Int32.toInt64 (r2) := by rw [ha1, hab]
      rw [heq, l_cmp]
      refine lv_if_eq (tgt := 457) hx hb dL_law_452 (by decide) (fun c_452 => ?_) (fun c_452 => ?_)
      · -- eq taken
        refine lv_goto (tgt := 1631) hx hb dL_law_457 (by decide) ?_
        exact kk xa1 (t_faith σ (xs (i + 1)) (xs (i + 2)) k) τ1 ρ k f1 _ _ _ (hW.eqG lG_m) hg1 hL1 hT1 (lv_sub hl [0, 1, 2, 3, 4] rfl)
      · -- eq not
        exact absurd rfl c_452
  · -- eq not
    have c_435 : ¬ (k = k) := fun h_ => c_435 ((x_eqN (a := k) (b := k) (by omega) (by omega)).mpr h_)
    exact absurd rfl c_435

set_option maxHeartbeats 4000000 in
set_option maxRecDepth 100000 in
theorem op_now (l : Launch) (hst0 : l.stackTraces = false) {p : Program} {e : Env} {s : State} {m : MethodId} {args : Array Value} {below : List Frame} {meth : Method} {c : Code} {H : Heap} {locs : List Loc} {cells slots : Nat} {Q : State → Prop} {ls : Array Slot} {D : xD} {sa : Nat → Nat} {A : Nat → Prop} {xa : xA} {σ : Sg} {τ : Tg} {ρ : Nat → Nat} {la : Nat} {f : Nat → Int64} {b L i : Nat} {xs : Nat → Int32} (hx : p.tables.exec = Jvm.exec) (hb : c.code = cL_law) (hml : c.maxLocals = 7) (hown : s.vm.findClass RL = some m.cls) (hts : ∀ w ∈ wsL_law, w.before args s = true) (hX : va_X b L xs s s.heap) (hbl : b < s.heap.size) (hbA : ¬ A b) (hLL : L ≤ 3072) (hi : i + 6 ≤ L) (hc6 : cells + 6 ≤ 601024) (hs39 : slots + 39 ≤ 7293034) (hW : xW D sa A s xa (lG D xa σ τ ρ la f) H locs) (hg : Gd σ) (hL : LL σ τ) (hT : TE σ τ) (hl : lv_has ls 7 [(0, .ref (b)), (1, .ref (xa 0 0)), (2, .ref (xa 20 0)), (3, .ref (xa 30 0)), (4, .int (nI (i)))])
    (kk : ∀ (xa1 : xA) (σ1 : Sg) (τ1 : Tg) (ρ1 : Nat → Nat) (la1 : Nat) (f1 : Nat → Int64) (H1 : Heap) (locs1 : List Loc) (ls1 : Array Slot), xW D sa A s xa1 (lG D xa1 σ1 τ1 ρ1 la1 f1) H1 locs1 → Gd σ1 → LL σ1 τ1 → TE σ1 τ1 → lv_has ls1 7 [(0, .ref (b)), (1, .ref (xa1 0 0)), (2, .ref (xa1 20 0)), (3, .ref (xa1 30 0)), (4, .int (nI (i)))] → W p l e room_1 s m args below meth c H1 locs1 (cells + 6) (slots + 39) Q (F0 m 1631 ls1 [])) : W p l e room_1 s m args below meth c H locs cells slots Q (F0 m 460 ls []) := by
  refine lv_aload_n hx hb dL_law_460 rfl (lv_at hl 1 rfl) ?_
  refine lv_aload_n hx hb dL_law_461 rfl (lv_at hl 0 rfl) ?_
  refine lv_iload hx hb dL_law_462 (lv_at hl 4 rfl) ?_
  refine lv_iconst (v := nI (1)) hx hb dL_law_464 (by decide +kernel) ?_
  refine lv_iadd hx hb dL_law_465 ?_
  rw [nI_add]
  refine l_sld hx hb hX hbl hbA hLL hW (by omega) dL_law_466 ?_
  refine lv_aload_n hx hb dL_law_467 rfl (lv_at hl 3 rfl) ?_
  refine xsw_i (As := [.ref (xa 0 0), .int (xs (i + 1)), .ref (xa 30 0)]) (rest := []) ⟨hx, hb, hml, hown, hts⟩ (c_L_now l hst0 D sa xa (mG (G30 D f) D xa σ ρ la) σ τ hg hL hT f G30_O (xs (i + 1))) (vx_cwSW (hh := [(0, 9, 12, 25)]) 3 hts gL_law_L_now rfl rfl rfl (by decide +kernel) ⟨Nat.le_of_ble_eq_true rfl, Nat.le_of_ble_eq_true rfl⟩) hW rfl rfl hl.1 (Nat.le_of_ble_eq_true rfl) dL_law_468 ⟨by show cells + 1 ≤ 601024; omega, by show slots + 6 ≤ 7293034; omega⟩ (fun rk xb G9 H locs hp hW => ?_)
  obtain ⟨k, f1, hgk, rfl, xa1, τ1, hag, hu, hL1, hT1, hans⟩ := hp
  have hu2 : G9 = _ := congrArg Prod.snd hu
  subst hu2
  have hu1 : xa1 = xb := (congrArg Prod.fst hu).symm
  subst hu1
  have hW : xW D sa A s xa1 (mG (xGs (G30 D f1) D xa1 (t_now σ (xs (i + 1)) k) τ1) D xa1 σ ρ la) H locs := hW.eqG (lG_c (f := f) hag)
  refine W.widen (k := cells + 6) (n := slots + 39) (by omega) (by omega) ?_
  have hl : lv_has ls 7 [(0, .ref (b)), (1, .ref (xa1 0 0)), (2, .ref (xa1 20 0)), (3, .ref (xa1 30 0)), (4, .int (nI (i)))] := by rw [hag 0 0 (by omega), hag 20 0 (by omega), hag 30 0 (by omega)]; exact hl
  have hk4 := hgk.lt
  have hg1 : Gd (t_now σ (xs (i + 1)) k) := g_now hg hgk
  refine lv_istore (lv' := [(5, .int (nI (k))), (0, .ref (b)), (1, .ref (xa1 0 0)), (2, .ref (xa1 20 0)), (3, .ref (xa1 30 0)), (4, .int (nI (i)))]) hx hb dL_law_471 hl (by decide) rfl (fun ls hl => ?_)
  have hl : lv_has ls 7 [(0, .ref (b)), (1, .ref (xa1 0 0)), (2, .ref (xa1 20 0)), (3, .ref (xa1 30 0)), (4, .int (nI (i))), (5, .int (nI (k)))] := lv_sub hl [1, 2, 3, 4, 5, 0] rfl
  refine lv_aload_n hx hb dL_law_473 rfl (lv_at hl 2 rfl) ?_
  refine lv_aload_n hx hb dL_law_474 rfl (lv_at hl 0 rfl) ?_
  refine lv_iload hx hb dL_law_475 (lv_at hl 4 rfl) ?_
  refine lv_iconst (v := nI (1)) hx hb dL_law_477 (by decide +kernel) ?_
  refine lv_iadd hx hb dL_law_478 ?_
  rw [nI_add]
  refine l_sld hx hb hX hbl hbA hLL hW (by omega) dL_law_479 ?_
  refine xv_i (k := 20) (i := 0) (As := [.int (xs (i + 1))]) (rest := []) ⟨hx, hb, hml, hown, hts⟩ (c_X5_now l D sa xa1 (xGs (G30 D f1) D xa1 (t_now σ (xs (i + 1)) k) τ1) σ ρ la hg (xs (i + 1))) (cwV 1 hts gL_law_X5_now rfl rfl rfl (by decide +kernel) ⟨Nat.le_of_ble_eq_true rfl, Nat.le_of_ble_eq_true rfl⟩) hW (mG_obj _ _ _ _ _ _) rfl rfl rfl rfl hl.1 (Nat.le_of_ble_eq_true rfl) dL_law_480 ⟨by show cells + 6 + 0 ≤ 601024; omega, by show slots + 39 + 0 ≤ 7293034; omega⟩ (fun r2 xb G9 H locs hp hW => ?_)
  obtain ⟨k2, hgk2, hu, hr2⟩ := hp
  cases hu
  have hkk := gk.uniq hgk hgk2
  subst hkk
  refine lv_istore (lv' := [(6, .int (r2)), (0, .ref (b)), (1, .ref (xa1 0 0)), (2, .ref (xa1 20 0)), (3, .ref (xa1 30 0)), (4, .int (nI (i))), (5, .int (nI (k)))]) hx hb dL_law_483 hl (by decide) rfl (fun ls hl => ?_)
  have hl : lv_has ls 7 [(0, .ref (b)), (1, .ref (xa1 0 0)), (2, .ref (xa1 20 0)), (3, .ref (xa1 30 0)), (4, .int (nI (i))), (5, .int (nI (k))), (6, .int (r2))] := lv_sub hl [1, 2, 3, 4, 5, 6, 0] rfl
  refine lv_aload_n hx hb dL_law_485 rfl (lv_at hl 2 rfl) ?_
  refine xv_i (k := 20) (i := 0) (As := []) (rest := []) ⟨hx, hb, hml, hown, hts⟩ (c_X5_thrown l D sa xa1 (xGs (G30 D f1) D xa1 (t_now σ (xs (i + 1)) k) τ1) (t_now σ (xs (i + 1)) k) ρ k hg1) (cwV 0 hts gL_law_X5_thrown rfl rfl rfl (by decide +kernel) ⟨Nat.le_of_ble_eq_true rfl, Nat.le_of_ble_eq_true rfl⟩) hW (mG_obj _ _ _ _ _ _) rfl rfl rfl rfl hl.1 (Nat.le_of_ble_eq_true rfl) dL_law_486 ⟨by show cells + 6 + 0 + 0 ≤ 601024; omega, by show slots + 39 + 0 + 0 ≤ 7293034; omega⟩ (fun r3 xb G9 H locs hp hW => ?_)
  obtain ⟨hu, hr3⟩ := hp
  cases hu
  subst hr3
  refine lv_iload hx hb dL_law_489 (lv_at hl 5 rfl) ?_
  refine lv_icmp_eq (tgt := 496) hx hb dL_law_491 (by decide) (fun c_491 => ?_) (fun c_491 => ?_)
  · -- eq taken
    have c_491 := (x_eqN (a := k) (b := k) (by omega) (by omega)).mp c_491
    refine lv_iload hx hb dL_law_496 (lv_at hl 5 rfl) ?_
    refine lv_if_ne (tgt := 513) hx hb dL_law_498 (by decide) (fun c_498 => ?_) (fun c_498 => ?_)
    · -- ne taken
      have c_498 : ¬ (k = 0) := fun h_ => c_498 ((x_eqZ (a := k) (by omega)).mpr h_)
      refine lv_goto (tgt := 1631) hx hb dL_law_513 (by decide) ?_
      exact kk xa1 (t_now σ (xs (i + 1)) k) τ1 ρ k f1 _ _ _ (hW.eqG lG_m) hg1 hL1 hT1 (lv_sub hl [0, 1, 2, 3, 4] rfl)
    · -- ne not
      have c_498 := (x_eqZ (a := k) (by omega)).mp c_498
      refine lv_aload_n hx hb dL_law_501 rfl (lv_at hl 3 rfl) ?_
      refine lv_iconst (v := nI (0)) hx hb dL_law_502 (by decide +kernel) ?_
      refine x_lld hx hb hW 30 0 (n := 1) (f := f1) ((if_neg (by omega)).trans ((if_neg (by omega)).trans (xup_self _ _ _ _))) 0 rfl (by omega) (by omega) rfl dL_law_503 ?_
      refine lv_iload hx hb dL_law_504 (lv_at hl 6 rfl) ?_
      refine lv_i2l (v := Int32.toInt64 (r2)) hx hb dL_law_506 rfl ?_
      refine W.lcmp hx hb dL_law_507 ?_
      obtain ⟨a_, ha1, ha2⟩ := hans c_498
      have hb2 := hr2 c_498
      have hab : a_ = r2 := Int32.toInt_inj.mp (ha2.trans hb2.symm)
      have heq : f1 0 = Int32.toInt64 (r2) := by rw [ha1, hab]
      rw [heq, l_cmp]
      refine lv_if_eq (tgt := 513) hx hb dL_law_508 (by decide) (fun c_508 => ?_) (fun c_508 => ?_)
      · -- eq taken
        refine lv_goto (tgt := 1631) hx hb dL_law_513 (by decide) ?_
        exact kk xa1 (t_now σ (xs (i + 1)) k) τ1 ρ k f1 _ _ _ (hW.eqG lG_m) hg1 hL1 hT1 (lv_sub hl [0, 1, 2, 3, 4] rfl)
      · -- eq not
        exact absurd rfl c_508
  · -- eq not
    have c_491 : ¬ (k = k) := fun h_ => c_491 ((x_eqN (a := k) (b := k) (by omega) (by omega)).mpr h_)
    exact absurd rfl c_491

set_option maxHeartbeats 4000000 in
set_option maxRecDepth 100000 in
theorem op_thing (l : Launch) (hst0 : l.stackTraces = false) {p : Program} {e : Env} {s : State} {m : MethodId} {args : Array Value} {below : List Frame} {meth : Method} {c : Code} {H : Heap} {locs : List Loc} {cells slots : Nat} {Q : State → Prop} {ls : Array Slot} {D : xD} {sa : Nat → Nat} {A : Nat → Prop} {xa : xA} {σ : Sg} {τ : Tg} {ρ : Nat → Nat} {la : Nat} {f : Nat → Int64} {b L i : Nat} {xs : Nat → Int32} (hx : p.tables.exec = Jvm.exec) (hb : c.code = cL_law) (hml : c.maxLocals = 7) (hown : s.vm.findClass RL = some m.cls) (hts : ∀ w ∈ wsL_law, w.before args s = true) (hX : va_X b L xs s s.heap) (hbl : b < s.heap.size) (hbA : ¬ A b) (hLL : L ≤ 3072) (hi : i + 6 ≤ L) (hc6 : cells + 6 ≤ 601024) (hs39 : slots + 39 ≤ 7293034) (hW : xW D sa A s xa (lG D xa σ τ ρ la f) H locs) (hg : Gd σ) (hL : LL σ τ) (hT : TE σ τ) (hl : lv_has ls 7 [(0, .ref (b)), (1, .ref (xa 0 0)), (2, .ref (xa 20 0)), (3, .ref (xa 30 0)), (4, .int (nI (i)))])
    (kk : ∀ (xa1 : xA) (σ1 : Sg) (τ1 : Tg) (ρ1 : Nat → Nat) (la1 : Nat) (f1 : Nat → Int64) (H1 : Heap) (locs1 : List Loc) (ls1 : Array Slot), xW D sa A s xa1 (lG D xa1 σ1 τ1 ρ1 la1 f1) H1 locs1 → Gd σ1 → LL σ1 τ1 → TE σ1 τ1 → lv_has ls1 7 [(0, .ref (b)), (1, .ref (xa1 0 0)), (2, .ref (xa1 20 0)), (3, .ref (xa1 30 0)), (4, .int (nI (i)))] → W p l e room_1 s m args below meth c H1 locs1 (cells + 6) (slots + 39) Q (F0 m 1631 ls1 [])) : W p l e room_1 s m args below meth c H locs cells slots Q (F0 m 516 ls []) := by
  refine lv_aload_n hx hb dL_law_516 rfl (lv_at hl 1 rfl) ?_
  refine lv_aload_n hx hb dL_law_517 rfl (lv_at hl 0 rfl) ?_
  refine lv_iload hx hb dL_law_518 (lv_at hl 4 rfl) ?_
  refine lv_iconst (v := nI (1)) hx hb dL_law_520 (by decide +kernel) ?_
  refine lv_iadd hx hb dL_law_521 ?_
  rw [nI_add]
  refine l_sld hx hb hX hbl hbA hLL hW (by omega) dL_law_522 ?_
  refine lv_aload_n hx hb dL_law_523 rfl (lv_at hl 0 rfl) ?_
  refine lv_iload hx hb dL_law_524 (lv_at hl 4 rfl) ?_
  refine lv_iconst (v := nI (2)) hx hb dL_law_526 (by decide +kernel) ?_
  refine lv_iadd hx hb dL_law_527 ?_
  rw [nI_add]
  refine l_sld hx hb hX hbl hbA hLL hW (by omega) dL_law_528 ?_
  refine lv_aload_n hx hb dL_law_529 rfl (lv_at hl 3 rfl) ?_
  refine xsw_i (As := [.ref (xa 0 0), .int (xs (i + 1)), .int (xs (i + 2)), .ref (xa 30 0)]) (rest := []) ⟨hx, hb, hml, hown, hts⟩ (c_L_thing l hst0 D sa xa (mG (G30 D f) D xa σ ρ la) σ τ hg hL hT f G30_O (xs (i + 1)) (xs (i + 2))) (vx_cwSW (hh := [(0, 10, 13, 25), (0, 10, 17, 15)]) 4 hts gL_law_L_thing rfl rfl rfl (by decide +kernel) ⟨Nat.le_of_ble_eq_true rfl, Nat.le_of_ble_eq_true rfl⟩) hW rfl rfl hl.1 (Nat.le_of_ble_eq_true rfl) dL_law_530 ⟨by show cells + 4 ≤ 601024; omega, by show slots + 26 ≤ 7293034; omega⟩ (fun rk xb G9 H locs hp hW => ?_)
  obtain ⟨k, f1, hgk, rfl, xa1, τ1, hag, hu, hL1, hT1, hans⟩ := hp
  have hu2 : G9 = _ := congrArg Prod.snd hu
  subst hu2
  have hu1 : xa1 = xb := (congrArg Prod.fst hu).symm
  subst hu1
  have hW : xW D sa A s xa1 (mG (xGs (G30 D f1) D xa1 (t_thing σ (xs (i + 1)) (xs (i + 2)) k) τ1) D xa1 σ ρ la) H locs := hW.eqG (lG_c (f := f) hag)
  refine W.widen (k := cells + 6) (n := slots + 39) (by omega) (by omega) ?_
  have hl : lv_has ls 7 [(0, .ref (b)), (1, .ref (xa1 0 0)), (2, .ref (xa1 20 0)), (3, .ref (xa1 30 0)), (4, .int (nI (i)))] := by rw [hag 0 0 (by omega), hag 20 0 (by omega), hag 30 0 (by omega)]; exact hl
  have hk4 := hgk.lt
  have hg1 : Gd (t_thing σ (xs (i + 1)) (xs (i + 2)) k) := g_thing hg hgk
  refine lv_istore (lv' := [(5, .int (nI (k))), (0, .ref (b)), (1, .ref (xa1 0 0)), (2, .ref (xa1 20 0)), (3, .ref (xa1 30 0)), (4, .int (nI (i)))]) hx hb dL_law_533 hl (by decide) rfl (fun ls hl => ?_)
  have hl : lv_has ls 7 [(0, .ref (b)), (1, .ref (xa1 0 0)), (2, .ref (xa1 20 0)), (3, .ref (xa1 30 0)), (4, .int (nI (i))), (5, .int (nI (k)))] := lv_sub hl [1, 2, 3, 4, 5, 0] rfl
  refine lv_aload_n hx hb dL_law_535 rfl (lv_at hl 2 rfl) ?_
  refine lv_aload_n hx hb dL_law_536 rfl (lv_at hl 0 rfl) ?_
  refine lv_iload hx hb dL_law_537 (lv_at hl 4 rfl) ?_
  refine lv_iconst (v := nI (1)) hx hb dL_law_539 (by decide +kernel) ?_
  refine lv_iadd hx hb dL_law_540 ?_
  rw [nI_add]
  refine l_sld hx hb hX hbl hbA hLL hW (by omega) dL_law_541 ?_
  refine lv_aload_n hx hb dL_law_542 rfl (lv_at hl 0 rfl) ?_
  refine lv_iload hx hb dL_law_543 (lv_at hl 4 rfl) ?_
  refine lv_iconst (v := nI (2)) hx hb dL_law_545 (by decide +kernel) ?_
  refine lv_iadd hx hb dL_law_546 ?_
  rw [nI_add]
  refine l_sld hx hb hX hbl hbA hLL hW (by omega) dL_law_547 ?_
  refine xv_i (k := 20) (i := 0) (As := [.int (xs (i + 1)), .int (xs (i + 2))]) (rest := []) ⟨hx, hb, hml, hown, hts⟩ (c_X5_thing l D sa xa1 (xGs (G30 D f1) D xa1 (t_thing σ (xs (i + 1)) (xs (i + 2)) k) τ1) σ ρ la hg (xs (i + 1)) (xs (i + 2))) (cwV 2 hts gL_law_X5_thing rfl rfl rfl (by decide +kernel) ⟨Nat.le_of_ble_eq_true rfl, Nat.le_of_ble_eq_true rfl⟩) hW (mG_obj _ _ _ _ _ _) rfl rfl rfl rfl hl.1 (Nat.le_of_ble_eq_true rfl) dL_law_548 ⟨by show cells + 6 + 0 ≤ 601024; omega, by show slots + 39 + 0 ≤ 7293034; omega⟩ (fun r2 xb G9 H locs hp hW => ?_)
  obtain ⟨k2, hgk2, hu, hr2⟩ := hp
  cases hu
  have hkk := gk.uniq hgk hgk2
  subst hkk
  refine lv_istore (lv' := [(6, .int (r2)), (0, .ref (b)), (1, .ref (xa1 0 0)), (2, .ref (xa1 20 0)), (3, .ref (xa1 30 0)), (4, .int (nI (i))), (5, .int (nI (k)))]) hx hb dL_law_551 hl (by decide) rfl (fun ls hl => ?_)
  have hl : lv_has ls 7 [(0, .ref (b)), (1, .ref (xa1 0 0)), (2, .ref (xa1 20 0)), (3, .ref (xa1 30 0)), (4, .int (nI (i))), (5, .int (nI (k))), (6, .int (r2))] := lv_sub hl [1, 2, 3, 4, 5, 6, 0] rfl
  refine lv_aload_n hx hb dL_law_553 rfl (lv_at hl 2 rfl) ?_
  refine xv_i (k := 20) (i := 0) (As := []) (rest := []) ⟨hx, hb, hml, hown, hts⟩ (c_X5_thrown l D sa xa1 (xGs (G30 D f1) D xa1 (t_thing σ (xs (i + 1)) (xs (i + 2)) k) τ1) (t_thing σ (xs (i + 1)) (xs (i + 2)) k) ρ k hg1) (cwV 0 hts gL_law_X5_thrown rfl rfl rfl (by decide +kernel) ⟨Nat.le_of_ble_eq_true rfl, Nat.le_of_ble_eq_true rfl⟩) hW (mG_obj _ _ _ _ _ _) rfl rfl rfl rfl hl.1 (Nat.le_of_ble_eq_true rfl) dL_law_554 ⟨by show cells + 6 + 0 + 0 ≤ 601024; omega, by show slots + 39 + 0 + 0 ≤ 7293034; omega⟩ (fun r3 xb G9 H locs hp hW => ?_)
  obtain ⟨hu, hr3⟩ := hp
  cases hu
  subst hr3
  refine lv_iload hx hb dL_law_557 (lv_at hl 5 rfl) ?_
  refine lv_icmp_eq (tgt := 564) hx hb dL_law_559 (by decide) (fun c_559 => ?_) (fun c_559 => ?_)
  · -- eq taken
    have c_559 := (x_eqN (a := k) (b := k) (by omega) (by omega)).mp c_559
    refine lv_iload hx hb dL_law_564 (lv_at hl 5 rfl) ?_
    refine lv_if_ne (tgt := 581) hx hb dL_law_566 (by decide) (fun c_566 => ?_) (fun c_566 => ?_)
    · -- ne taken
      have c_566 : ¬ (k = 0) := fun h_ => c_566 ((x_eqZ (a := k) (by omega)).mpr h_)
      refine lv_goto (tgt := 1631) hx hb dL_law_581 (by decide) ?_
      exact kk xa1 (t_thing σ (xs (i + 1)) (xs (i + 2)) k) τ1 ρ k f1 _ _ _ (hW.eqG lG_m) hg1 hL1 hT1 (lv_sub hl [0, 1, 2, 3, 4] rfl)
    · -- ne not
      have c_566 := (x_eqZ (a := k) (by omega)).mp c_566
      refine lv_aload_n hx hb dL_law_569 rfl (lv_at hl 3 rfl) ?_
      refine lv_iconst (v := nI (0)) hx hb dL_law_570 (by decide +kernel) ?_
      refine x_lld hx hb hW 30 0 (n := 1) (f := f1) ((if_neg (by omega)).trans ((if_neg (by omega)).trans (xup_self _ _ _ _))) 0 rfl (by omega) (by omega) rfl dL_law_571 ?_
      refine lv_iload hx hb dL_law_572 (lv_at hl 6 rfl) ?_
      refine lv_i2l (v := Int32.toInt64 (r2)) hx hb dL_law_574 rfl ?_
      refine W.lcmp hx hb dL_law_575 ?_
      obtain ⟨a_, ha1, ha2⟩ := hans c_566
      have hb2 := hr2 c_566
      have hab : a_ = r2 := Int32.toInt_inj.mp (ha2.trans hb2.symm)
      have heq : f1 0 = Int32.toInt64 (r2) := by rw [ha1, hab]
      rw [heq, l_cmp]
      refine lv_if_eq (tgt := 581) hx hb dL_law_576 (by decide) (fun c_576 => ?_) (fun c_576 => ?_)
      · -- eq taken
        refine lv_goto (tgt := 1631) hx hb dL_law_581 (by decide) ?_
        exact kk xa1 (t_thing σ (xs (i + 1)) (xs (i + 2)) k) τ1 ρ k f1 _ _ _ (hW.eqG lG_m) hg1 hL1 hT1 (lv_sub hl [0, 1, 2, 3, 4] rfl)
      · -- eq not
        exact absurd rfl c_576
  · -- eq not
    have c_559 : ¬ (k = k) := fun h_ => c_559 ((x_eqN (a := k) (b := k) (by omega) (by omega)).mpr h_)
    exact absurd rfl c_559

set_option maxHeartbeats 4000000 in
set_option maxRecDepth 100000 in
theorem op_mark (l : Launch) (hst0 : l.stackTraces = false) {p : Program} {e : Env} {s : State} {m : MethodId} {args : Array Value} {below : List Frame} {meth : Method} {c : Code} {H : Heap} {locs : List Loc} {cells slots : Nat} {Q : State → Prop} {ls : Array Slot} {D : xD} {sa : Nat → Nat} {A : Nat → Prop} {xa : xA} {σ : Sg} {τ : Tg} {ρ : Nat → Nat} {la : Nat} {f : Nat → Int64} {b L i : Nat} {xs : Nat → Int32} (hx : p.tables.exec = Jvm.exec) (hb : c.code = cL_law) (hml : c.maxLocals = 7) (hown : s.vm.findClass RL = some m.cls) (hts : ∀ w ∈ wsL_law, w.before args s = true) (hX : va_X b L xs s s.heap) (hbl : b < s.heap.size) (hbA : ¬ A b) (hLL : L ≤ 3072) (hi : i + 6 ≤ L) (hc6 : cells + 6 ≤ 601024) (hs39 : slots + 39 ≤ 7293034) (hW : xW D sa A s xa (lG D xa σ τ ρ la f) H locs) (hg : Gd σ) (hL : LL σ τ) (hT : TE σ τ) (hl : lv_has ls 7 [(0, .ref (b)), (1, .ref (xa 0 0)), (2, .ref (xa 20 0)), (3, .ref (xa 30 0)), (4, .int (nI (i)))])
    (kk : ∀ (xa1 : xA) (σ1 : Sg) (τ1 : Tg) (ρ1 : Nat → Nat) (la1 : Nat) (f1 : Nat → Int64) (H1 : Heap) (locs1 : List Loc) (ls1 : Array Slot), xW D sa A s xa1 (lG D xa1 σ1 τ1 ρ1 la1 f1) H1 locs1 → Gd σ1 → LL σ1 τ1 → TE σ1 τ1 → lv_has ls1 7 [(0, .ref (b)), (1, .ref (xa1 0 0)), (2, .ref (xa1 20 0)), (3, .ref (xa1 30 0)), (4, .int (nI (i)))] → W p l e room_1 s m args below meth c H1 locs1 (cells + 6) (slots + 39) Q (F0 m 1631 ls1 [])) : W p l e room_1 s m args below meth c H locs cells slots Q (F0 m 584 ls []) := by
  refine lv_aload_n hx hb dL_law_584 rfl (lv_at hl 1 rfl) ?_
  refine lv_aload_n hx hb dL_law_585 rfl (lv_at hl 0 rfl) ?_
  refine lv_iload hx hb dL_law_586 (lv_at hl 4 rfl) ?_
  refine lv_iconst (v := nI (1)) hx hb dL_law_588 (by decide +kernel) ?_
  refine lv_iadd hx hb dL_law_589 ?_
  rw [nI_add]
  refine l_sld hx hb hX hbl hbA hLL hW (by omega) dL_law_590 ?_
  refine lv_aload_n hx hb dL_law_591 rfl (lv_at hl 0 rfl) ?_
  refine lv_iload hx hb dL_law_592 (lv_at hl 4 rfl) ?_
  refine lv_iconst (v := nI (2)) hx hb dL_law_594 (by decide +kernel) ?_
  refine lv_iadd hx hb dL_law_595 ?_
  rw [nI_add]
  refine l_sld hx hb hX hbl hbA hLL hW (by omega) dL_law_596 ?_
  refine lv_aload_n hx hb dL_law_597 rfl (lv_at hl 0 rfl) ?_
  refine lv_iload hx hb dL_law_598 (lv_at hl 4 rfl) ?_
  refine lv_iconst (v := nI (3)) hx hb dL_law_600 (by decide +kernel) ?_
  refine lv_iadd hx hb dL_law_601 ?_
  rw [nI_add]
  refine l_sld hx hb hX hbl hbA hLL hW (by omega) dL_law_602 ?_
  refine lv_if_eq (tgt := 610) hx hb dL_law_603 (by decide) (fun c_603 => ?_) (fun c_603 => ?_)
  · -- eq taken
    refine lv_iconst (v := nI (0)) hx hb dL_law_610 (by decide +kernel) ?_
    refine lv_aload_n hx hb dL_law_611 rfl (lv_at hl 3 rfl) ?_
    refine xsw_i (As := [.ref (xa 0 0), .int (xs (i + 1)), .int (xs (i + 2)), .int (nI (0)), .ref (xa 30 0)]) (rest := []) ⟨hx, hb, hml, hown, hts⟩ (c_L_mark l hst0 D sa xa (mG (G30 D f) D xa σ ρ la) σ τ hg hL hT f G30_O (xs (i + 1)) (xs (i + 2)) 0 (by decide)) (vx_cwSW (hh := [(0, 19, 22, 13), (0, 19, 26, 25)]) 5 hts gL_law_L_mark rfl rfl rfl (by decide +kernel) ⟨Nat.le_of_ble_eq_true rfl, Nat.le_of_ble_eq_true rfl⟩) hW rfl rfl hl.1 (Nat.le_of_ble_eq_true rfl) dL_law_612 ⟨by show cells + 2 ≤ 601024; omega, by show slots + 12 ≤ 7293034; omega⟩ (fun rk xb G9 H locs hp hW => ?_)
    obtain ⟨k, f1, hgk, rfl, xa1, τ1, hag, hu, hL1, hT1, hans⟩ := hp
    have hu2 : G9 = _ := congrArg Prod.snd hu
    subst hu2
    have hu1 : xa1 = xb := (congrArg Prod.fst hu).symm
    subst hu1
    have hW : xW D sa A s xa1 (mG (xGs (G30 D f1) D xa1 (t_mark σ (xs (i + 1)) (xs (i + 2)) 0 k) τ1) D xa1 σ ρ la) H locs := hW.eqG (lG_c (f := f) hag)
    refine W.widen (k := cells + 6) (n := slots + 39) (by omega) (by omega) ?_
    have hl : lv_has ls 7 [(0, .ref (b)), (1, .ref (xa1 0 0)), (2, .ref (xa1 20 0)), (3, .ref (xa1 30 0)), (4, .int (nI (i)))] := by rw [hag 0 0 (by omega), hag 20 0 (by omega), hag 30 0 (by omega)]; exact hl
    have hk4 := hgk.lt
    have hg1 : Gd (t_mark σ (xs (i + 1)) (xs (i + 2)) 0 k) := g_mark hg hgk
    refine lv_istore (lv' := [(5, .int (nI (k))), (0, .ref (b)), (1, .ref (xa1 0 0)), (2, .ref (xa1 20 0)), (3, .ref (xa1 30 0)), (4, .int (nI (i)))]) hx hb dL_law_615 hl (by decide) rfl (fun ls hl => ?_)
    have hl : lv_has ls 7 [(0, .ref (b)), (1, .ref (xa1 0 0)), (2, .ref (xa1 20 0)), (3, .ref (xa1 30 0)), (4, .int (nI (i))), (5, .int (nI (k)))] := lv_sub hl [1, 2, 3, 4, 5, 0] rfl
    refine lv_aload_n hx hb dL_law_617 rfl (lv_at hl 2 rfl) ?_
    refine lv_aload_n hx hb dL_law_618 rfl (lv_at hl 0 rfl) ?_
    refine lv_iload hx hb dL_law_619 (lv_at hl 4 rfl) ?_
    refine lv_iconst (v := nI (1)) hx hb dL_law_621 (by decide +kernel) ?_
    refine lv_iadd hx hb dL_law_622 ?_
    rw [nI_add]
    refine l_sld hx hb hX hbl hbA hLL hW (by omega) dL_law_623 ?_
    refine lv_aload_n hx hb dL_law_624 rfl (lv_at hl 0 rfl) ?_
    refine lv_iload hx hb dL_law_625 (lv_at hl 4 rfl) ?_
    refine lv_iconst (v := nI (2)) hx hb dL_law_627 (by decide +kernel) ?_
    refine lv_iadd hx hb dL_law_628 ?_
    rw [nI_add]
    refine l_sld hx hb hX hbl hbA hLL hW (by omega) dL_law_629 ?_
    refine lv_aload_n hx hb dL_law_630 rfl (lv_at hl 0 rfl) ?_
    refine lv_iload hx hb dL_law_631 (lv_at hl 4 rfl) ?_
    refine lv_iconst (v := nI (3)) hx hb dL_law_633 (by decide +kernel) ?_
    refine lv_iadd hx hb dL_law_634 ?_
    rw [nI_add]
    refine l_sld hx hb hX hbl hbA hLL hW (by omega) dL_law_635 ?_
    refine lv_if_eq (tgt := 643) hx hb dL_law_636 (by decide) (fun c_636 => ?_) (fun c_636 => ?_)
    · -- eq taken
      refine lv_iconst (v := nI (0)) hx hb dL_law_643 (by decide +kernel) ?_
      refine xv_i (k := 20) (i := 0) (As := [.int (xs (i + 1)), .int (xs (i + 2)), .int (nI (0))]) (rest := []) ⟨hx, hb, hml, hown, hts⟩ (c_X5_mark l D sa xa1 (xGs (G30 D f1) D xa1 (t_mark σ (xs (i + 1)) (xs (i + 2)) 0 k) τ1) σ ρ la hg (xs (i + 1)) (xs (i + 2)) 0 (by decide)) (cwV 3 hts gL_law_X5_mark rfl rfl rfl (by decide +kernel) ⟨Nat.le_of_ble_eq_true rfl, Nat.le_of_ble_eq_true rfl⟩) hW (mG_obj _ _ _ _ _ _) rfl rfl rfl rfl hl.1 (Nat.le_of_ble_eq_true rfl) dL_law_644 ⟨by show cells + 6 + 0 ≤ 601024; omega, by show slots + 39 + 0 ≤ 7293034; omega⟩ (fun r2 xb G9 H locs hp hW => ?_)
      obtain ⟨k2, hgk2, hu, hr2⟩ := hp
      cases hu
      have hkk := gk.uniq hgk hgk2
      subst hkk
      refine lv_istore (lv' := [(6, .int (r2)), (0, .ref (b)), (1, .ref (xa1 0 0)), (2, .ref (xa1 20 0)), (3, .ref (xa1 30 0)), (4, .int (nI (i))), (5, .int (nI (k)))]) hx hb dL_law_647 hl (by decide) rfl (fun ls hl => ?_)
      have hl : lv_has ls 7 [(0, .ref (b)), (1, .ref (xa1 0 0)), (2, .ref (xa1 20 0)), (3, .ref (xa1 30 0)), (4, .int (nI (i))), (5, .int (nI (k))), (6, .int (r2))] := lv_sub hl [1, 2, 3, 4, 5, 6, 0] rfl
      refine lv_aload_n hx hb dL_law_649 rfl (lv_at hl 2 rfl) ?_
      refine xv_i (k := 20) (i := 0) (As := []) (rest := []) ⟨hx, hb, hml, hown, hts⟩ (c_X5_thrown l D sa xa1 (xGs (G30 D f1) D xa1 (t_mark σ (xs (i + 1)) (xs (i + 2)) 0 k) τ1) (t_mark σ (xs (i + 1)) (xs (i + 2)) 0 k) ρ k hg1) (cwV 0 hts gL_law_X5_thrown rfl rfl rfl (by decide +kernel) ⟨Nat.le_of_ble_eq_true rfl, Nat.le_of_ble_eq_true rfl⟩) hW (mG_obj _ _ _ _ _ _) rfl rfl rfl rfl hl.1 (Nat.le_of_ble_eq_true rfl) dL_law_650 ⟨by show cells + 6 + 0 + 0 ≤ 601024; omega, by show slots + 39 + 0 + 0 ≤ 7293034; omega⟩ (fun r3 xb G9 H locs hp hW => ?_)
      obtain ⟨hu, hr3⟩ := hp
      cases hu
      subst hr3
      refine lv_iload hx hb dL_law_653 (lv_at hl 5 rfl) ?_
      refine lv_icmp_eq (tgt := 660) hx hb dL_law_655 (by decide) (fun c_655 => ?_) (fun c_655 => ?_)
      · -- eq taken
        have c_655 := (x_eqN (a := k) (b := k) (by omega) (by omega)).mp c_655
        refine lv_iload hx hb dL_law_660 (lv_at hl 5 rfl) ?_
        refine lv_if_ne (tgt := 684) hx hb dL_law_662 (by decide) (fun c_662 => ?_) (fun c_662 => ?_)
        · -- ne taken
          have c_662 : ¬ (k = 0) := fun h_ => c_662 ((x_eqZ (a := k) (by omega)).mpr h_)
          refine lv_goto (tgt := 1631) hx hb dL_law_684 (by decide) ?_
          exact kk xa1 (t_mark σ (xs (i + 1)) (xs (i + 2)) 0 k) τ1 ρ k f1 _ _ _ (hW.eqG lG_m) hg1 hL1 hT1 (lv_sub hl [0, 1, 2, 3, 4] rfl)
        · -- ne not
          have c_662 := (x_eqZ (a := k) (by omega)).mp c_662
          refine lv_aload_n hx hb dL_law_665 rfl (lv_at hl 3 rfl) ?_
          refine lv_iconst (v := nI (0)) hx hb dL_law_666 (by decide +kernel) ?_
          refine x_lld hx hb hW 30 0 (n := 1) (f := f1) ((if_neg (by omega)).trans ((if_neg (by omega)).trans (xup_self _ _ _ _))) 0 rfl (by omega) (by omega) rfl dL_law_667 ?_
          refine lv_iload hx hb dL_law_668 (lv_at hl 6 rfl) ?_
          have hb2 := hr2 c_662
          refine lv_if_eq (tgt := 677) hx hb dL_law_670 (by decide) (fun c_670 => ?_) (fun c_670 => ?_)
          · -- eq taken
            have c_670 := hb2.f c_670
            refine lv_lconst (v := 0) hx hb dL_law_677 (by decide +kernel) ?_
            refine W.lcmp hx hb dL_law_678 ?_
            have heq : f1 0 = 0 := (hans c_662).elim (fun h => absurd h.1 c_670) (fun h => h.2)
            rw [heq, l_cmp]
            refine lv_if_eq (tgt := 684) hx hb dL_law_679 (by decide) (fun c_679 => ?_) (fun c_679 => ?_)
            · -- eq taken
              refine lv_goto (tgt := 1631) hx hb dL_law_684 (by decide) ?_
              exact kk xa1 (t_mark σ (xs (i + 1)) (xs (i + 2)) 0 k) τ1 ρ k f1 _ _ _ (hW.eqG lG_m) hg1 hL1 hT1 (lv_sub hl [0, 1, 2, 3, 4] rfl)
            · -- eq not
              exact absurd rfl c_679
          · -- eq not
            have c_670 := hb2.t c_670
            refine lv_lconst (v := 1) hx hb dL_law_673 (by decide +kernel) ?_
            refine lv_goto (tgt := 678) hx hb dL_law_674 (by decide) ?_
            refine W.lcmp hx hb dL_law_678 ?_
            have heq : f1 0 = 1 := (hans c_662).elim (fun h => h.2) (fun h => absurd c_670 h.1)
            rw [heq, l_cmp]
            refine lv_if_eq (tgt := 684) hx hb dL_law_679 (by decide) (fun c_679 => ?_) (fun c_679 => ?_)
            · -- eq taken
              refine lv_goto (tgt := 1631) hx hb dL_law_684 (by decide) ?_
              exact kk xa1 (t_mark σ (xs (i + 1)) (xs (i + 2)) 0 k) τ1 ρ k f1 _ _ _ (hW.eqG lG_m) hg1 hL1 hT1 (lv_sub hl [0, 1, 2, 3, 4] rfl)
            · -- eq not
              exact absurd rfl c_679
      · -- eq not
        have c_655 : ¬ (k = k) := fun h_ => c_655 ((x_eqN (a := k) (b := k) (by omega) (by omega)).mpr h_)
        exact absurd rfl c_655
    · -- eq not
      exact absurd c_603 c_636
  · -- eq not
    refine lv_iconst (v := nI (1)) hx hb dL_law_606 (by decide +kernel) ?_
    refine lv_goto (tgt := 611) hx hb dL_law_607 (by decide) ?_
    refine lv_aload_n hx hb dL_law_611 rfl (lv_at hl 3 rfl) ?_
    refine xsw_i (As := [.ref (xa 0 0), .int (xs (i + 1)), .int (xs (i + 2)), .int (nI (1)), .ref (xa 30 0)]) (rest := []) ⟨hx, hb, hml, hown, hts⟩ (c_L_mark l hst0 D sa xa (mG (G30 D f) D xa σ ρ la) σ τ hg hL hT f G30_O (xs (i + 1)) (xs (i + 2)) 1 (by decide)) (vx_cwSW (hh := [(0, 19, 22, 13), (0, 19, 26, 25)]) 5 hts gL_law_L_mark rfl rfl rfl (by decide +kernel) ⟨Nat.le_of_ble_eq_true rfl, Nat.le_of_ble_eq_true rfl⟩) hW rfl rfl hl.1 (Nat.le_of_ble_eq_true rfl) dL_law_612 ⟨by show cells + 2 ≤ 601024; omega, by show slots + 12 ≤ 7293034; omega⟩ (fun rk xb G9 H locs hp hW => ?_)
    obtain ⟨k, f1, hgk, rfl, xa1, τ1, hag, hu, hL1, hT1, hans⟩ := hp
    have hu2 : G9 = _ := congrArg Prod.snd hu
    subst hu2
    have hu1 : xa1 = xb := (congrArg Prod.fst hu).symm
    subst hu1
    have hW : xW D sa A s xa1 (mG (xGs (G30 D f1) D xa1 (t_mark σ (xs (i + 1)) (xs (i + 2)) 1 k) τ1) D xa1 σ ρ la) H locs := hW.eqG (lG_c (f := f) hag)
    refine W.widen (k := cells + 6) (n := slots + 39) (by omega) (by omega) ?_
    have hl : lv_has ls 7 [(0, .ref (b)), (1, .ref (xa1 0 0)), (2, .ref (xa1 20 0)), (3, .ref (xa1 30 0)), (4, .int (nI (i)))] := by rw [hag 0 0 (by omega), hag 20 0 (by omega), hag 30 0 (by omega)]; exact hl
    have hk4 := hgk.lt
    have hg1 : Gd (t_mark σ (xs (i + 1)) (xs (i + 2)) 1 k) := g_mark hg hgk
    refine lv_istore (lv' := [(5, .int (nI (k))), (0, .ref (b)), (1, .ref (xa1 0 0)), (2, .ref (xa1 20 0)), (3, .ref (xa1 30 0)), (4, .int (nI (i)))]) hx hb dL_law_615 hl (by decide) rfl (fun ls hl => ?_)
    have hl : lv_has ls 7 [(0, .ref (b)), (1, .ref (xa1 0 0)), (2, .ref (xa1 20 0)), (3, .ref (xa1 30 0)), (4, .int (nI (i))), (5, .int (nI (k)))] := lv_sub hl [1, 2, 3, 4, 5, 0] rfl
    refine lv_aload_n hx hb dL_law_617 rfl (lv_at hl 2 rfl) ?_
    refine lv_aload_n hx hb dL_law_618 rfl (lv_at hl 0 rfl) ?_
    refine lv_iload hx hb dL_law_619 (lv_at hl 4 rfl) ?_
    refine lv_iconst (v := nI (1)) hx hb dL_law_621 (by decide +kernel) ?_
    refine lv_iadd hx hb dL_law_622 ?_
    rw [nI_add]
    refine l_sld hx hb hX hbl hbA hLL hW (by omega) dL_law_623 ?_
    refine lv_aload_n hx hb dL_law_624 rfl (lv_at hl 0 rfl) ?_
    refine lv_iload hx hb dL_law_625 (lv_at hl 4 rfl) ?_
    refine lv_iconst (v := nI (2)) hx hb dL_law_627 (by decide +kernel) ?_
    refine lv_iadd hx hb dL_law_628 ?_
    rw [nI_add]
    refine l_sld hx hb hX hbl hbA hLL hW (by omega) dL_law_629 ?_
    refine lv_aload_n hx hb dL_law_630 rfl (lv_at hl 0 rfl) ?_
    refine lv_iload hx hb dL_law_631 (lv_at hl 4 rfl) ?_
    refine lv_iconst (v := nI (3)) hx hb dL_law_633 (by decide +kernel) ?_
    refine lv_iadd hx hb dL_law_634 ?_
    rw [nI_add]
    refine l_sld hx hb hX hbl hbA hLL hW (by omega) dL_law_635 ?_
    refine lv_if_eq (tgt := 643) hx hb dL_law_636 (by decide) (fun c_636 => ?_) (fun c_636 => ?_)
    · -- eq taken
      exact absurd c_636 c_603
    · -- eq not
      refine lv_iconst (v := nI (1)) hx hb dL_law_639 (by decide +kernel) ?_
      refine lv_goto (tgt := 644) hx hb dL_law_640 (by decide) ?_
      refine xv_i (k := 20) (i := 0) (As := [.int (xs (i + 1)), .int (xs (i + 2)), .int (nI (1))]) (rest := []) ⟨hx, hb, hml, hown, hts⟩ (c_X5_mark l D sa xa1 (xGs (G30 D f1) D xa1 (t_mark σ (xs (i + 1)) (xs (i + 2)) 1 k) τ1) σ ρ la hg (xs (i + 1)) (xs (i + 2)) 1 (by decide)) (cwV 3 hts gL_law_X5_mark rfl rfl rfl (by decide +kernel) ⟨Nat.le_of_ble_eq_true rfl, Nat.le_of_ble_eq_true rfl⟩) hW (mG_obj _ _ _ _ _ _) rfl rfl rfl rfl hl.1 (Nat.le_of_ble_eq_true rfl) dL_law_644 ⟨by show cells + 6 + 0 ≤ 601024; omega, by show slots + 39 + 0 ≤ 7293034; omega⟩ (fun r2 xb G9 H locs hp hW => ?_)
      obtain ⟨k2, hgk2, hu, hr2⟩ := hp
      cases hu
      have hkk := gk.uniq hgk hgk2
      subst hkk
      refine lv_istore (lv' := [(6, .int (r2)), (0, .ref (b)), (1, .ref (xa1 0 0)), (2, .ref (xa1 20 0)), (3, .ref (xa1 30 0)), (4, .int (nI (i))), (5, .int (nI (k)))]) hx hb dL_law_647 hl (by decide) rfl (fun ls hl => ?_)
      have hl : lv_has ls 7 [(0, .ref (b)), (1, .ref (xa1 0 0)), (2, .ref (xa1 20 0)), (3, .ref (xa1 30 0)), (4, .int (nI (i))), (5, .int (nI (k))), (6, .int (r2))] := lv_sub hl [1, 2, 3, 4, 5, 6, 0] rfl
      refine lv_aload_n hx hb dL_law_649 rfl (lv_at hl 2 rfl) ?_
      refine xv_i (k := 20) (i := 0) (As := []) (rest := []) ⟨hx, hb, hml, hown, hts⟩ (c_X5_thrown l D sa xa1 (xGs (G30 D f1) D xa1 (t_mark σ (xs (i + 1)) (xs (i + 2)) 1 k) τ1) (t_mark σ (xs (i + 1)) (xs (i + 2)) 1 k) ρ k hg1) (cwV 0 hts gL_law_X5_thrown rfl rfl rfl (by decide +kernel) ⟨Nat.le_of_ble_eq_true rfl, Nat.le_of_ble_eq_true rfl⟩) hW (mG_obj _ _ _ _ _ _) rfl rfl rfl rfl hl.1 (Nat.le_of_ble_eq_true rfl) dL_law_650 ⟨by show cells + 6 + 0 + 0 ≤ 601024; omega, by show slots + 39 + 0 + 0 ≤ 7293034; omega⟩ (fun r3 xb G9 H locs hp hW => ?_)
      obtain ⟨hu, hr3⟩ := hp
      cases hu
      subst hr3
      refine lv_iload hx hb dL_law_653 (lv_at hl 5 rfl) ?_
      refine lv_icmp_eq (tgt := 660) hx hb dL_law_655 (by decide) (fun c_655 => ?_) (fun c_655 => ?_)
      · -- eq taken
        have c_655 := (x_eqN (a := k) (b := k) (by omega) (by omega)).mp c_655
        refine lv_iload hx hb dL_law_660 (lv_at hl 5 rfl) ?_
        refine lv_if_ne (tgt := 684) hx hb dL_law_662 (by decide) (fun c_662 => ?_) (fun c_662 => ?_)
        · -- ne taken
          have c_662 : ¬ (k = 0) := fun h_ => c_662 ((x_eqZ (a := k) (by omega)).mpr h_)
          refine lv_goto (tgt := 1631) hx hb dL_law_684 (by decide) ?_
          exact kk xa1 (t_mark σ (xs (i + 1)) (xs (i + 2)) 1 k) τ1 ρ k f1 _ _ _ (hW.eqG lG_m) hg1 hL1 hT1 (lv_sub hl [0, 1, 2, 3, 4] rfl)
        · -- ne not
          have c_662 := (x_eqZ (a := k) (by omega)).mp c_662
          refine lv_aload_n hx hb dL_law_665 rfl (lv_at hl 3 rfl) ?_
          refine lv_iconst (v := nI (0)) hx hb dL_law_666 (by decide +kernel) ?_
          refine x_lld hx hb hW 30 0 (n := 1) (f := f1) ((if_neg (by omega)).trans ((if_neg (by omega)).trans (xup_self _ _ _ _))) 0 rfl (by omega) (by omega) rfl dL_law_667 ?_
          refine lv_iload hx hb dL_law_668 (lv_at hl 6 rfl) ?_
          have hb2 := hr2 c_662
          refine lv_if_eq (tgt := 677) hx hb dL_law_670 (by decide) (fun c_670 => ?_) (fun c_670 => ?_)
          · -- eq taken
            have c_670 := hb2.f c_670
            refine lv_lconst (v := 0) hx hb dL_law_677 (by decide +kernel) ?_
            refine W.lcmp hx hb dL_law_678 ?_
            have heq : f1 0 = 0 := (hans c_662).elim (fun h => absurd h.1 c_670) (fun h => h.2)
            rw [heq, l_cmp]
            refine lv_if_eq (tgt := 684) hx hb dL_law_679 (by decide) (fun c_679 => ?_) (fun c_679 => ?_)
            · -- eq taken
              refine lv_goto (tgt := 1631) hx hb dL_law_684 (by decide) ?_
              exact kk xa1 (t_mark σ (xs (i + 1)) (xs (i + 2)) 1 k) τ1 ρ k f1 _ _ _ (hW.eqG lG_m) hg1 hL1 hT1 (lv_sub hl [0, 1, 2, 3, 4] rfl)
            · -- eq not
              exact absurd rfl c_679
          · -- eq not
            have c_670 := hb2.t c_670
            refine lv_lconst (v := 1) hx hb dL_law_673 (by decide +kernel) ?_
            refine lv_goto (tgt := 678) hx hb dL_law_674 (by decide) ?_
            refine W.lcmp hx hb dL_law_678 ?_
            have heq : f1 0 = 1 := (hans c_662).elim (fun h => h.2) (fun h => absurd c_670 h.1)
            rw [heq, l_cmp]
            refine lv_if_eq (tgt := 684) hx hb dL_law_679 (by decide) (fun c_679 => ?_) (fun c_679 => ?_)
            · -- eq taken
              refine lv_goto (tgt := 1631) hx hb dL_law_684 (by decide) ?_
              exact kk xa1 (t_mark σ (xs (i + 1)) (xs (i + 2)) 1 k) τ1 ρ k f1 _ _ _ (hW.eqG lG_m) hg1 hL1 hT1 (lv_sub hl [0, 1, 2, 3, 4] rfl)
            · -- eq not
              exact absurd rfl c_679
      · -- eq not
        have c_655 : ¬ (k = k) := fun h_ => c_655 ((x_eqN (a := k) (b := k) (by omega) (by omega)).mpr h_)
        exact absurd rfl c_655

set_option maxHeartbeats 4000000 in
set_option maxRecDepth 100000 in
theorem op_station (l : Launch) (hst0 : l.stackTraces = false) {p : Program} {e : Env} {s : State} {m : MethodId} {args : Array Value} {below : List Frame} {meth : Method} {c : Code} {H : Heap} {locs : List Loc} {cells slots : Nat} {Q : State → Prop} {ls : Array Slot} {D : xD} {sa : Nat → Nat} {A : Nat → Prop} {xa : xA} {σ : Sg} {τ : Tg} {ρ : Nat → Nat} {la : Nat} {f : Nat → Int64} {b L i : Nat} {xs : Nat → Int32} (hx : p.tables.exec = Jvm.exec) (hb : c.code = cL_law) (hml : c.maxLocals = 7) (hown : s.vm.findClass RL = some m.cls) (hts : ∀ w ∈ wsL_law, w.before args s = true) (hX : va_X b L xs s s.heap) (hbl : b < s.heap.size) (hbA : ¬ A b) (hLL : L ≤ 3072) (hi : i + 6 ≤ L) (hc6 : cells + 6 ≤ 601024) (hs39 : slots + 39 ≤ 7293034) (hW : xW D sa A s xa (lG D xa σ τ ρ la f) H locs) (hg : Gd σ) (hL : LL σ τ) (hT : TE σ τ) (hl : lv_has ls 7 [(0, .ref (b)), (1, .ref (xa 0 0)), (2, .ref (xa 20 0)), (3, .ref (xa 30 0)), (4, .int (nI (i)))])
    (kk : ∀ (xa1 : xA) (σ1 : Sg) (τ1 : Tg) (ρ1 : Nat → Nat) (la1 : Nat) (f1 : Nat → Int64) (H1 : Heap) (locs1 : List Loc) (ls1 : Array Slot), xW D sa A s xa1 (lG D xa1 σ1 τ1 ρ1 la1 f1) H1 locs1 → Gd σ1 → LL σ1 τ1 → TE σ1 τ1 → lv_has ls1 7 [(0, .ref (b)), (1, .ref (xa1 0 0)), (2, .ref (xa1 20 0)), (3, .ref (xa1 30 0)), (4, .int (nI (i)))] → W p l e room_1 s m args below meth c H1 locs1 (cells + 6) (slots + 39) Q (F0 m 1631 ls1 [])) : W p l e room_1 s m args below meth c H locs cells slots Q (F0 m 687 ls []) := by
  refine lv_aload_n hx hb dL_law_687 rfl (lv_at hl 1 rfl) ?_
  refine lv_aload_n hx hb dL_law_688 rfl (lv_at hl 0 rfl) ?_
  refine lv_iload hx hb dL_law_689 (lv_at hl 4 rfl) ?_
  refine lv_iconst (v := nI (1)) hx hb dL_law_691 (by decide +kernel) ?_
  refine lv_iadd hx hb dL_law_692 ?_
  rw [nI_add]
  refine l_sld hx hb hX hbl hbA hLL hW (by omega) dL_law_693 ?_
  refine lv_aload_n hx hb dL_law_694 rfl (lv_at hl 0 rfl) ?_
  refine lv_iload hx hb dL_law_695 (lv_at hl 4 rfl) ?_
  refine lv_iconst (v := nI (2)) hx hb dL_law_697 (by decide +kernel) ?_
  refine lv_iadd hx hb dL_law_698 ?_
  rw [nI_add]
  refine l_sld hx hb hX hbl hbA hLL hW (by omega) dL_law_699 ?_
  refine lv_aload_n hx hb dL_law_700 rfl (lv_at hl 0 rfl) ?_
  refine lv_iload hx hb dL_law_701 (lv_at hl 4 rfl) ?_
  refine lv_iconst (v := nI (3)) hx hb dL_law_703 (by decide +kernel) ?_
  refine lv_iadd hx hb dL_law_704 ?_
  rw [nI_add]
  refine l_sld hx hb hX hbl hbA hLL hW (by omega) dL_law_705 ?_
  refine lv_aload_n hx hb dL_law_706 rfl (lv_at hl 0 rfl) ?_
  refine lv_iload hx hb dL_law_707 (lv_at hl 4 rfl) ?_
  refine lv_iconst (v := nI (4)) hx hb dL_law_709 (by decide +kernel) ?_
  refine lv_iadd hx hb dL_law_710 ?_
  rw [nI_add]
  refine l_sld hx hb hX hbl hbA hLL hW (by omega) dL_law_711 ?_
  refine lv_aload_n hx hb dL_law_712 rfl (lv_at hl 0 rfl) ?_
  refine lv_iload hx hb dL_law_713 (lv_at hl 4 rfl) ?_
  refine lv_iconst (v := nI (5)) hx hb dL_law_715 (by decide +kernel) ?_
  refine lv_iadd hx hb dL_law_716 ?_
  rw [nI_add]
  refine l_sld hx hb hX hbl hbA hLL hW (by omega) dL_law_717 ?_
  refine lv_aload_n hx hb dL_law_718 rfl (lv_at hl 3 rfl) ?_
  refine xsw_i (As := [.ref (xa 0 0), .int (xs (i + 1)), .int (xs (i + 2)), .int (xs (i + 3)), .int (xs (i + 4)), .int (xs (i + 5)), .ref (xa 30 0)]) (rest := []) ⟨hx, hb, hml, hown, hts⟩ (c_L_station l hst0 D sa xa (mG (G30 D f) D xa σ ρ la) σ τ hg hL hT f G30_O (xs (i + 1)) (xs (i + 2)) (xs (i + 3)) (xs (i + 4)) (xs (i + 5))) (vx_cwSW (hh := [(0, 16, 19, 13), (0, 16, 23, 25), (0, 16, 27, 15)]) 7 hts gL_law_L_station rfl rfl rfl (by decide +kernel) ⟨Nat.le_of_ble_eq_true rfl, Nat.le_of_ble_eq_true rfl⟩) hW rfl rfl hl.1 (Nat.le_of_ble_eq_true rfl) dL_law_719 ⟨by show cells + 6 ≤ 601024; omega, by show slots + 39 ≤ 7293034; omega⟩ (fun rk xb G9 H locs hp hW => ?_)
  obtain ⟨k, f1, hgk, rfl, xa1, τ1, hag, hu, hL1, hT1, hans⟩ := hp
  have hu2 : G9 = _ := congrArg Prod.snd hu
  subst hu2
  have hu1 : xa1 = xb := (congrArg Prod.fst hu).symm
  subst hu1
  have hW : xW D sa A s xa1 (mG (xGs (G30 D f1) D xa1 (t_station σ (xs (i + 1)) (xs (i + 2)) (xs (i + 3)) (xs (i + 4)) (xs (i + 5)) k) τ1) D xa1 σ ρ la) H locs := hW.eqG (lG_c (f := f) hag)
  refine W.widen (k := cells + 6) (n := slots + 39) (by omega) (by omega) ?_
  have hl : lv_has ls 7 [(0, .ref (b)), (1, .ref (xa1 0 0)), (2, .ref (xa1 20 0)), (3, .ref (xa1 30 0)), (4, .int (nI (i)))] := by rw [hag 0 0 (by omega), hag 20 0 (by omega), hag 30 0 (by omega)]; exact hl
  have hk4 := hgk.lt
  have hg1 : Gd (t_station σ (xs (i + 1)) (xs (i + 2)) (xs (i + 3)) (xs (i + 4)) (xs (i + 5)) k) := g_station hg hgk
  refine lv_istore (lv' := [(5, .int (nI (k))), (0, .ref (b)), (1, .ref (xa1 0 0)), (2, .ref (xa1 20 0)), (3, .ref (xa1 30 0)), (4, .int (nI (i)))]) hx hb dL_law_722 hl (by decide) rfl (fun ls hl => ?_)
  have hl : lv_has ls 7 [(0, .ref (b)), (1, .ref (xa1 0 0)), (2, .ref (xa1 20 0)), (3, .ref (xa1 30 0)), (4, .int (nI (i))), (5, .int (nI (k)))] := lv_sub hl [1, 2, 3, 4, 5, 0] rfl
  refine lv_aload_n hx hb dL_law_724 rfl (lv_at hl 2 rfl) ?_
  refine lv_aload_n hx hb dL_law_725 rfl (lv_at hl 0 rfl) ?_
  refine lv_iload hx hb dL_law_726 (lv_at hl 4 rfl) ?_
  refine lv_iconst (v := nI (1)) hx hb dL_law_728 (by decide +kernel) ?_
  refine lv_iadd hx hb dL_law_729 ?_
  rw [nI_add]
  refine l_sld hx hb hX hbl hbA hLL hW (by omega) dL_law_730 ?_
  refine lv_aload_n hx hb dL_law_731 rfl (lv_at hl 0 rfl) ?_
  refine lv_iload hx hb dL_law_732 (lv_at hl 4 rfl) ?_
  refine lv_iconst (v := nI (2)) hx hb dL_law_734 (by decide +kernel) ?_
  refine lv_iadd hx hb dL_law_735 ?_
  rw [nI_add]
  refine l_sld hx hb hX hbl hbA hLL hW (by omega) dL_law_736 ?_
  refine lv_aload_n hx hb dL_law_737 rfl (lv_at hl 0 rfl) ?_
  refine lv_iload hx hb dL_law_738 (lv_at hl 4 rfl) ?_
  refine lv_iconst (v := nI (3)) hx hb dL_law_740 (by decide +kernel) ?_
  refine lv_iadd hx hb dL_law_741 ?_
  rw [nI_add]
  refine l_sld hx hb hX hbl hbA hLL hW (by omega) dL_law_742 ?_
  refine lv_aload_n hx hb dL_law_743 rfl (lv_at hl 0 rfl) ?_
  refine lv_iload hx hb dL_law_744 (lv_at hl 4 rfl) ?_
  refine lv_iconst (v := nI (4)) hx hb dL_law_746 (by decide +kernel) ?_
  refine lv_iadd hx hb dL_law_747 ?_
  rw [nI_add]
  refine l_sld hx hb hX hbl hbA hLL hW (by omega) dL_law_748 ?_
  refine lv_aload_n hx hb dL_law_749 rfl (lv_at hl 0 rfl) ?_
  refine lv_iload hx hb dL_law_750 (lv_at hl 4 rfl) ?_
  refine lv_iconst (v := nI (5)) hx hb dL_law_752 (by decide +kernel) ?_
  refine lv_iadd hx hb dL_law_753 ?_
  rw [nI_add]
  refine l_sld hx hb hX hbl hbA hLL hW (by omega) dL_law_754 ?_
  refine xv_i (k := 20) (i := 0) (As := [.int (xs (i + 1)), .int (xs (i + 2)), .int (xs (i + 3)), .int (xs (i + 4)), .int (xs (i + 5))]) (rest := []) ⟨hx, hb, hml, hown, hts⟩ (c_X5_station l D sa xa1 (xGs (G30 D f1) D xa1 (t_station σ (xs (i + 1)) (xs (i + 2)) (xs (i + 3)) (xs (i + 4)) (xs (i + 5)) k) τ1) σ ρ la hg (xs (i + 1)) (xs (i + 2)) (xs (i + 3)) (xs (i + 4)) (xs (i + 5))) (cwV 5 hts gL_law_X5_station rfl rfl rfl (by decide +kernel) ⟨Nat.le_of_ble_eq_true rfl, Nat.le_of_ble_eq_true rfl⟩) hW (mG_obj _ _ _ _ _ _) rfl rfl rfl rfl hl.1 (Nat.le_of_ble_eq_true rfl) dL_law_755 ⟨by show cells + 6 + 0 ≤ 601024; omega, by show slots + 39 + 0 ≤ 7293034; omega⟩ (fun r2 xb G9 H locs hp hW => ?_)
  obtain ⟨k2, hgk2, hu, hr2⟩ := hp
  cases hu
  have hkk := gk.uniq hgk hgk2
  subst hkk
  refine lv_istore (lv' := [(6, .int (r2)), (0, .ref (b)), (1, .ref (xa1 0 0)), (2, .ref (xa1 20 0)), (3, .ref (xa1 30 0)), (4, .int (nI (i))), (5, .int (nI (k)))]) hx hb dL_law_758 hl (by decide) rfl (fun ls hl => ?_)
  have hl : lv_has ls 7 [(0, .ref (b)), (1, .ref (xa1 0 0)), (2, .ref (xa1 20 0)), (3, .ref (xa1 30 0)), (4, .int (nI (i))), (5, .int (nI (k))), (6, .int (r2))] := lv_sub hl [1, 2, 3, 4, 5, 6, 0] rfl
  refine lv_aload_n hx hb dL_law_760 rfl (lv_at hl 2 rfl) ?_
  refine xv_i (k := 20) (i := 0) (As := []) (rest := []) ⟨hx, hb, hml, hown, hts⟩ (c_X5_thrown l D sa xa1 (xGs (G30 D f1) D xa1 (t_station σ (xs (i + 1)) (xs (i + 2)) (xs (i + 3)) (xs (i + 4)) (xs (i + 5)) k) τ1) (t_station σ (xs (i + 1)) (xs (i + 2)) (xs (i + 3)) (xs (i + 4)) (xs (i + 5)) k) ρ k hg1) (cwV 0 hts gL_law_X5_thrown rfl rfl rfl (by decide +kernel) ⟨Nat.le_of_ble_eq_true rfl, Nat.le_of_ble_eq_true rfl⟩) hW (mG_obj _ _ _ _ _ _) rfl rfl rfl rfl hl.1 (Nat.le_of_ble_eq_true rfl) dL_law_761 ⟨by show cells + 6 + 0 + 0 ≤ 601024; omega, by show slots + 39 + 0 + 0 ≤ 7293034; omega⟩ (fun r3 xb G9 H locs hp hW => ?_)
  obtain ⟨hu, hr3⟩ := hp
  cases hu
  subst hr3
  refine lv_iload hx hb dL_law_764 (lv_at hl 5 rfl) ?_
  refine lv_icmp_eq (tgt := 771) hx hb dL_law_766 (by decide) (fun c_766 => ?_) (fun c_766 => ?_)
  · -- eq taken
    have c_766 := (x_eqN (a := k) (b := k) (by omega) (by omega)).mp c_766
    refine lv_iload hx hb dL_law_771 (lv_at hl 5 rfl) ?_
    refine lv_if_ne (tgt := 788) hx hb dL_law_773 (by decide) (fun c_773 => ?_) (fun c_773 => ?_)
    · -- ne taken
      have c_773 : ¬ (k = 0) := fun h_ => c_773 ((x_eqZ (a := k) (by omega)).mpr h_)
      refine lv_goto (tgt := 1631) hx hb dL_law_788 (by decide) ?_
      exact kk xa1 (t_station σ (xs (i + 1)) (xs (i + 2)) (xs (i + 3)) (xs (i + 4)) (xs (i + 5)) k) τ1 ρ k f1 _ _ _ (hW.eqG lG_m) hg1 hL1 hT1 (lv_sub hl [0, 1, 2, 3, 4] rfl)
    · -- ne not
      have c_773 := (x_eqZ (a := k) (by omega)).mp c_773
      refine lv_aload_n hx hb dL_law_776 rfl (lv_at hl 3 rfl) ?_
      refine lv_iconst (v := nI (0)) hx hb dL_law_777 (by decide +kernel) ?_
      refine x_lld hx hb hW 30 0 (n := 1) (f := f1) ((if_neg (by omega)).trans ((if_neg (by omega)).trans (xup_self _ _ _ _))) 0 rfl (by omega) (by omega) rfl dL_law_778 ?_
      refine lv_iload hx hb dL_law_779 (lv_at hl 6 rfl) ?_
      refine lv_i2l (v := Int32.toInt64 (r2)) hx hb dL_law_781 rfl ?_
      refine W.lcmp hx hb dL_law_782 ?_
      obtain ⟨a_, ha1, ha2⟩ := hans c_773
      have hb2 := hr2 c_773
      have hab : a_ = r2 := Int32.toInt_inj.mp (ha2.trans hb2.symm)
      have heq : f1 0 = Int32.toInt64 (r2) := by rw [ha1, hab]
      rw [heq, l_cmp]
      refine lv_if_eq (tgt := 788) hx hb dL_law_783 (by decide) (fun c_783 => ?_) (fun c_783 => ?_)
      · -- eq taken
        refine lv_goto (tgt := 1631) hx hb dL_law_788 (by decide) ?_
        exact kk xa1 (t_station σ (xs (i + 1)) (xs (i + 2)) (xs (i + 3)) (xs (i + 4)) (xs (i + 5)) k) τ1 ρ k f1 _ _ _ (hW.eqG lG_m) hg1 hL1 hT1 (lv_sub hl [0, 1, 2, 3, 4] rfl)
      · -- eq not
        exact absurd rfl c_783
  · -- eq not
    have c_766 : ¬ (k = k) := fun h_ => c_766 ((x_eqN (a := k) (b := k) (by omega) (by omega)).mpr h_)
    exact absurd rfl c_766

set_option maxHeartbeats 4000000 in
set_option maxRecDepth 100000 in
theorem op_rebut (l : Launch) (hst0 : l.stackTraces = false) {p : Program} {e : Env} {s : State} {m : MethodId} {args : Array Value} {below : List Frame} {meth : Method} {c : Code} {H : Heap} {locs : List Loc} {cells slots : Nat} {Q : State → Prop} {ls : Array Slot} {D : xD} {sa : Nat → Nat} {A : Nat → Prop} {xa : xA} {σ : Sg} {τ : Tg} {ρ : Nat → Nat} {la : Nat} {f : Nat → Int64} {b L i : Nat} {xs : Nat → Int32} (hx : p.tables.exec = Jvm.exec) (hb : c.code = cL_law) (hml : c.maxLocals = 7) (hown : s.vm.findClass RL = some m.cls) (hts : ∀ w ∈ wsL_law, w.before args s = true) (hX : va_X b L xs s s.heap) (hbl : b < s.heap.size) (hbA : ¬ A b) (hLL : L ≤ 3072) (hi : i + 6 ≤ L) (hc6 : cells + 6 ≤ 601024) (hs39 : slots + 39 ≤ 7293034) (hW : xW D sa A s xa (lG D xa σ τ ρ la f) H locs) (hg : Gd σ) (hL : LL σ τ) (hT : TE σ τ) (hl : lv_has ls 7 [(0, .ref (b)), (1, .ref (xa 0 0)), (2, .ref (xa 20 0)), (3, .ref (xa 30 0)), (4, .int (nI (i)))])
    (kk : ∀ (xa1 : xA) (σ1 : Sg) (τ1 : Tg) (ρ1 : Nat → Nat) (la1 : Nat) (f1 : Nat → Int64) (H1 : Heap) (locs1 : List Loc) (ls1 : Array Slot), xW D sa A s xa1 (lG D xa1 σ1 τ1 ρ1 la1 f1) H1 locs1 → Gd σ1 → LL σ1 τ1 → TE σ1 τ1 → lv_has ls1 7 [(0, .ref (b)), (1, .ref (xa1 0 0)), (2, .ref (xa1 20 0)), (3, .ref (xa1 30 0)), (4, .int (nI (i)))] → W p l e room_1 s m args below meth c H1 locs1 (cells + 6) (slots + 39) Q (F0 m 1631 ls1 [])) : W p l e room_1 s m args below meth c H locs cells slots Q (F0 m 791 ls []) := by
  refine lv_aload_n hx hb dL_law_791 rfl (lv_at hl 1 rfl) ?_
  refine lv_aload_n hx hb dL_law_792 rfl (lv_at hl 0 rfl) ?_
  refine lv_iload hx hb dL_law_793 (lv_at hl 4 rfl) ?_
  refine lv_iconst (v := nI (1)) hx hb dL_law_795 (by decide +kernel) ?_
  refine lv_iadd hx hb dL_law_796 ?_
  rw [nI_add]
  refine l_sld hx hb hX hbl hbA hLL hW (by omega) dL_law_797 ?_
  refine lv_aload_n hx hb dL_law_798 rfl (lv_at hl 0 rfl) ?_
  refine lv_iload hx hb dL_law_799 (lv_at hl 4 rfl) ?_
  refine lv_iconst (v := nI (2)) hx hb dL_law_801 (by decide +kernel) ?_
  refine lv_iadd hx hb dL_law_802 ?_
  rw [nI_add]
  refine l_sld hx hb hX hbl hbA hLL hW (by omega) dL_law_803 ?_
  refine lv_aload_n hx hb dL_law_804 rfl (lv_at hl 0 rfl) ?_
  refine lv_iload hx hb dL_law_805 (lv_at hl 4 rfl) ?_
  refine lv_iconst (v := nI (3)) hx hb dL_law_807 (by decide +kernel) ?_
  refine lv_iadd hx hb dL_law_808 ?_
  rw [nI_add]
  refine l_sld hx hb hX hbl hbA hLL hW (by omega) dL_law_809 ?_
  refine lv_if_eq (tgt := 817) hx hb dL_law_810 (by decide) (fun c_810 => ?_) (fun c_810 => ?_)
  · -- eq taken
    refine lv_iconst (v := nI (0)) hx hb dL_law_817 (by decide +kernel) ?_
    refine lv_aload_n hx hb dL_law_818 rfl (lv_at hl 3 rfl) ?_
    refine xsw_i (As := [.ref (xa 0 0), .int (xs (i + 1)), .int (xs (i + 2)), .int (nI (0)), .ref (xa 30 0)]) (rest := []) ⟨hx, hb, hml, hown, hts⟩ (c_L_rebut l hst0 D sa xa (mG (G30 D f) D xa σ ρ la) σ τ hg hL hT f G30_O (xs (i + 1)) (xs (i + 2)) 0 (by decide)) (vx_cwSW (hh := [(0, 19, 22, 13), (0, 19, 26, 25)]) 5 hts gL_law_L_rebut rfl rfl rfl (by decide +kernel) ⟨Nat.le_of_ble_eq_true rfl, Nat.le_of_ble_eq_true rfl⟩) hW rfl rfl hl.1 (Nat.le_of_ble_eq_true rfl) dL_law_819 ⟨by show cells + 3 ≤ 601024; omega, by show slots + 18 ≤ 7293034; omega⟩ (fun rk xb G9 H locs hp hW => ?_)
    obtain ⟨k, f1, hgk, rfl, xa1, τ1, hag, hu, hL1, hT1, hans⟩ := hp
    have hu2 : G9 = _ := congrArg Prod.snd hu
    subst hu2
    have hu1 : xa1 = xb := (congrArg Prod.fst hu).symm
    subst hu1
    have hW : xW D sa A s xa1 (mG (xGs (G30 D f1) D xa1 (t_rebut σ (xs (i + 1)) (xs (i + 2)) 0 k) τ1) D xa1 σ ρ la) H locs := hW.eqG (lG_c (f := f) hag)
    refine W.widen (k := cells + 6) (n := slots + 39) (by omega) (by omega) ?_
    have hl : lv_has ls 7 [(0, .ref (b)), (1, .ref (xa1 0 0)), (2, .ref (xa1 20 0)), (3, .ref (xa1 30 0)), (4, .int (nI (i)))] := by rw [hag 0 0 (by omega), hag 20 0 (by omega), hag 30 0 (by omega)]; exact hl
    have hk4 := hgk.lt
    have hg1 : Gd (t_rebut σ (xs (i + 1)) (xs (i + 2)) 0 k) := g_rebut hg (by decide) hgk
    refine lv_istore (lv' := [(5, .int (nI (k))), (0, .ref (b)), (1, .ref (xa1 0 0)), (2, .ref (xa1 20 0)), (3, .ref (xa1 30 0)), (4, .int (nI (i)))]) hx hb dL_law_822 hl (by decide) rfl (fun ls hl => ?_)
    have hl : lv_has ls 7 [(0, .ref (b)), (1, .ref (xa1 0 0)), (2, .ref (xa1 20 0)), (3, .ref (xa1 30 0)), (4, .int (nI (i))), (5, .int (nI (k)))] := lv_sub hl [1, 2, 3, 4, 5, 0] rfl
    refine lv_aload_n hx hb dL_law_824 rfl (lv_at hl 2 rfl) ?_
    refine lv_aload_n hx hb dL_law_825 rfl (lv_at hl 0 rfl) ?_
    refine lv_iload hx hb dL_law_826 (lv_at hl 4 rfl) ?_
    refine lv_iconst (v := nI (1)) hx hb dL_law_828 (by decide +kernel) ?_
    refine lv_iadd hx hb dL_law_829 ?_
    rw [nI_add]
    refine l_sld hx hb hX hbl hbA hLL hW (by omega) dL_law_830 ?_
    refine lv_aload_n hx hb dL_law_831 rfl (lv_at hl 0 rfl) ?_
    refine lv_iload hx hb dL_law_832 (lv_at hl 4 rfl) ?_
    refine lv_iconst (v := nI (2)) hx hb dL_law_834 (by decide +kernel) ?_
    refine lv_iadd hx hb dL_law_835 ?_
    rw [nI_add]
    refine l_sld hx hb hX hbl hbA hLL hW (by omega) dL_law_836 ?_
    refine lv_aload_n hx hb dL_law_837 rfl (lv_at hl 0 rfl) ?_
    refine lv_iload hx hb dL_law_838 (lv_at hl 4 rfl) ?_
    refine lv_iconst (v := nI (3)) hx hb dL_law_840 (by decide +kernel) ?_
    refine lv_iadd hx hb dL_law_841 ?_
    rw [nI_add]
    refine l_sld hx hb hX hbl hbA hLL hW (by omega) dL_law_842 ?_
    refine lv_if_eq (tgt := 850) hx hb dL_law_843 (by decide) (fun c_843 => ?_) (fun c_843 => ?_)
    · -- eq taken
      refine lv_iconst (v := nI (0)) hx hb dL_law_850 (by decide +kernel) ?_
      refine xv_i (k := 20) (i := 0) (As := [.int (xs (i + 1)), .int (xs (i + 2)), .int (nI (0))]) (rest := []) ⟨hx, hb, hml, hown, hts⟩ (c_X5_rebut l D sa xa1 (xGs (G30 D f1) D xa1 (t_rebut σ (xs (i + 1)) (xs (i + 2)) 0 k) τ1) σ ρ la hg (xs (i + 1)) (xs (i + 2)) 0 (by decide)) (cwV 3 hts gL_law_X5_rebut rfl rfl rfl (by decide +kernel) ⟨Nat.le_of_ble_eq_true rfl, Nat.le_of_ble_eq_true rfl⟩) hW (mG_obj _ _ _ _ _ _) rfl rfl rfl rfl hl.1 (Nat.le_of_ble_eq_true rfl) dL_law_851 ⟨by show cells + 6 + 0 ≤ 601024; omega, by show slots + 39 + 0 ≤ 7293034; omega⟩ (fun r2 xb G9 H locs hp hW => ?_)
      obtain ⟨k2, hgk2, hu, hr2⟩ := hp
      cases hu
      have hkk := gk.uniq hgk hgk2
      subst hkk
      refine lv_istore (lv' := [(6, .int (r2)), (0, .ref (b)), (1, .ref (xa1 0 0)), (2, .ref (xa1 20 0)), (3, .ref (xa1 30 0)), (4, .int (nI (i))), (5, .int (nI (k)))]) hx hb dL_law_854 hl (by decide) rfl (fun ls hl => ?_)
      have hl : lv_has ls 7 [(0, .ref (b)), (1, .ref (xa1 0 0)), (2, .ref (xa1 20 0)), (3, .ref (xa1 30 0)), (4, .int (nI (i))), (5, .int (nI (k))), (6, .int (r2))] := lv_sub hl [1, 2, 3, 4, 5, 6, 0] rfl
      refine lv_aload_n hx hb dL_law_856 rfl (lv_at hl 2 rfl) ?_
      refine xv_i (k := 20) (i := 0) (As := []) (rest := []) ⟨hx, hb, hml, hown, hts⟩ (c_X5_thrown l D sa xa1 (xGs (G30 D f1) D xa1 (t_rebut σ (xs (i + 1)) (xs (i + 2)) 0 k) τ1) (t_rebut σ (xs (i + 1)) (xs (i + 2)) 0 k) ρ k hg1) (cwV 0 hts gL_law_X5_thrown rfl rfl rfl (by decide +kernel) ⟨Nat.le_of_ble_eq_true rfl, Nat.le_of_ble_eq_true rfl⟩) hW (mG_obj _ _ _ _ _ _) rfl rfl rfl rfl hl.1 (Nat.le_of_ble_eq_true rfl) dL_law_857 ⟨by show cells + 6 + 0 + 0 ≤ 601024; omega, by show slots + 39 + 0 + 0 ≤ 7293034; omega⟩ (fun r3 xb G9 H locs hp hW => ?_)
      obtain ⟨hu, hr3⟩ := hp
      cases hu
      subst hr3
      refine lv_iload hx hb dL_law_860 (lv_at hl 5 rfl) ?_
      refine lv_icmp_eq (tgt := 867) hx hb dL_law_862 (by decide) (fun c_862 => ?_) (fun c_862 => ?_)
      · -- eq taken
        have c_862 := (x_eqN (a := k) (b := k) (by omega) (by omega)).mp c_862
        refine lv_iload hx hb dL_law_867 (lv_at hl 5 rfl) ?_
        refine lv_if_ne (tgt := 891) hx hb dL_law_869 (by decide) (fun c_869 => ?_) (fun c_869 => ?_)
        · -- ne taken
          have c_869 : ¬ (k = 0) := fun h_ => c_869 ((x_eqZ (a := k) (by omega)).mpr h_)
          refine lv_goto (tgt := 1631) hx hb dL_law_891 (by decide) ?_
          exact kk xa1 (t_rebut σ (xs (i + 1)) (xs (i + 2)) 0 k) τ1 ρ k f1 _ _ _ (hW.eqG lG_m) hg1 hL1 hT1 (lv_sub hl [0, 1, 2, 3, 4] rfl)
        · -- ne not
          have c_869 := (x_eqZ (a := k) (by omega)).mp c_869
          refine lv_aload_n hx hb dL_law_872 rfl (lv_at hl 3 rfl) ?_
          refine lv_iconst (v := nI (0)) hx hb dL_law_873 (by decide +kernel) ?_
          refine x_lld hx hb hW 30 0 (n := 1) (f := f1) ((if_neg (by omega)).trans ((if_neg (by omega)).trans (xup_self _ _ _ _))) 0 rfl (by omega) (by omega) rfl dL_law_874 ?_
          refine lv_iload hx hb dL_law_875 (lv_at hl 6 rfl) ?_
          have hb2 := hr2 c_869
          refine lv_if_eq (tgt := 884) hx hb dL_law_877 (by decide) (fun c_877 => ?_) (fun c_877 => ?_)
          · -- eq taken
            have c_877 := hb2.f c_877
            refine lv_lconst (v := 0) hx hb dL_law_884 (by decide +kernel) ?_
            refine W.lcmp hx hb dL_law_885 ?_
            have heq : f1 0 = 0 := (hans c_869).elim (fun h => absurd h.1 c_877) (fun h => h.2)
            rw [heq, l_cmp]
            refine lv_if_eq (tgt := 891) hx hb dL_law_886 (by decide) (fun c_886 => ?_) (fun c_886 => ?_)
            · -- eq taken
              refine lv_goto (tgt := 1631) hx hb dL_law_891 (by decide) ?_
              exact kk xa1 (t_rebut σ (xs (i + 1)) (xs (i + 2)) 0 k) τ1 ρ k f1 _ _ _ (hW.eqG lG_m) hg1 hL1 hT1 (lv_sub hl [0, 1, 2, 3, 4] rfl)
            · -- eq not
              exact absurd rfl c_886
          · -- eq not
            have c_877 := hb2.t c_877
            refine lv_lconst (v := 1) hx hb dL_law_880 (by decide +kernel) ?_
            refine lv_goto (tgt := 885) hx hb dL_law_881 (by decide) ?_
            refine W.lcmp hx hb dL_law_885 ?_
            have heq : f1 0 = 1 := (hans c_869).elim (fun h => h.2) (fun h => absurd c_877 h.1)
            rw [heq, l_cmp]
            refine lv_if_eq (tgt := 891) hx hb dL_law_886 (by decide) (fun c_886 => ?_) (fun c_886 => ?_)
            · -- eq taken
              refine lv_goto (tgt := 1631) hx hb dL_law_891 (by decide) ?_
              exact kk xa1 (t_rebut σ (xs (i + 1)) (xs (i + 2)) 0 k) τ1 ρ k f1 _ _ _ (hW.eqG lG_m) hg1 hL1 hT1 (lv_sub hl [0, 1, 2, 3, 4] rfl)
            · -- eq not
              exact absurd rfl c_886
      · -- eq not
        have c_862 : ¬ (k = k) := fun h_ => c_862 ((x_eqN (a := k) (b := k) (by omega) (by omega)).mpr h_)
        exact absurd rfl c_862
    · -- eq not
      exact absurd c_810 c_843
  · -- eq not
    refine lv_iconst (v := nI (1)) hx hb dL_law_813 (by decide +kernel) ?_
    refine lv_goto (tgt := 818) hx hb dL_law_814 (by decide) ?_
    refine lv_aload_n hx hb dL_law_818 rfl (lv_at hl 3 rfl) ?_
    refine xsw_i (As := [.ref (xa 0 0), .int (xs (i + 1)), .int (xs (i + 2)), .int (nI (1)), .ref (xa 30 0)]) (rest := []) ⟨hx, hb, hml, hown, hts⟩ (c_L_rebut l hst0 D sa xa (mG (G30 D f) D xa σ ρ la) σ τ hg hL hT f G30_O (xs (i + 1)) (xs (i + 2)) 1 (by decide)) (vx_cwSW (hh := [(0, 19, 22, 13), (0, 19, 26, 25)]) 5 hts gL_law_L_rebut rfl rfl rfl (by decide +kernel) ⟨Nat.le_of_ble_eq_true rfl, Nat.le_of_ble_eq_true rfl⟩) hW rfl rfl hl.1 (Nat.le_of_ble_eq_true rfl) dL_law_819 ⟨by show cells + 3 ≤ 601024; omega, by show slots + 18 ≤ 7293034; omega⟩ (fun rk xb G9 H locs hp hW => ?_)
    obtain ⟨k, f1, hgk, rfl, xa1, τ1, hag, hu, hL1, hT1, hans⟩ := hp
    have hu2 : G9 = _ := congrArg Prod.snd hu
    subst hu2
    have hu1 : xa1 = xb := (congrArg Prod.fst hu).symm
    subst hu1
    have hW : xW D sa A s xa1 (mG (xGs (G30 D f1) D xa1 (t_rebut σ (xs (i + 1)) (xs (i + 2)) 1 k) τ1) D xa1 σ ρ la) H locs := hW.eqG (lG_c (f := f) hag)
    refine W.widen (k := cells + 6) (n := slots + 39) (by omega) (by omega) ?_
    have hl : lv_has ls 7 [(0, .ref (b)), (1, .ref (xa1 0 0)), (2, .ref (xa1 20 0)), (3, .ref (xa1 30 0)), (4, .int (nI (i)))] := by rw [hag 0 0 (by omega), hag 20 0 (by omega), hag 30 0 (by omega)]; exact hl
    have hk4 := hgk.lt
    have hg1 : Gd (t_rebut σ (xs (i + 1)) (xs (i + 2)) 1 k) := g_rebut hg (by decide) hgk
    refine lv_istore (lv' := [(5, .int (nI (k))), (0, .ref (b)), (1, .ref (xa1 0 0)), (2, .ref (xa1 20 0)), (3, .ref (xa1 30 0)), (4, .int (nI (i)))]) hx hb dL_law_822 hl (by decide) rfl (fun ls hl => ?_)
    have hl : lv_has ls 7 [(0, .ref (b)), (1, .ref (xa1 0 0)), (2, .ref (xa1 20 0)), (3, .ref (xa1 30 0)), (4, .int (nI (i))), (5, .int (nI (k)))] := lv_sub hl [1, 2, 3, 4, 5, 0] rfl
    refine lv_aload_n hx hb dL_law_824 rfl (lv_at hl 2 rfl) ?_
    refine lv_aload_n hx hb dL_law_825 rfl (lv_at hl 0 rfl) ?_
    refine lv_iload hx hb dL_law_826 (lv_at hl 4 rfl) ?_
    refine lv_iconst (v := nI (1)) hx hb dL_law_828 (by decide +kernel) ?_
    refine lv_iadd hx hb dL_law_829 ?_
    rw [nI_add]
    refine l_sld hx hb hX hbl hbA hLL hW (by omega) dL_law_830 ?_
    refine lv_aload_n hx hb dL_law_831 rfl (lv_at hl 0 rfl) ?_
    refine lv_iload hx hb dL_law_832 (lv_at hl 4 rfl) ?_
    refine lv_iconst (v := nI (2)) hx hb dL_law_834 (by decide +kernel) ?_
    refine lv_iadd hx hb dL_law_835 ?_
    rw [nI_add]
    refine l_sld hx hb hX hbl hbA hLL hW (by omega) dL_law_836 ?_
    refine lv_aload_n hx hb dL_law_837 rfl (lv_at hl 0 rfl) ?_
    refine lv_iload hx hb dL_law_838 (lv_at hl 4 rfl) ?_
    refine lv_iconst (v := nI (3)) hx hb dL_law_840 (by decide +kernel) ?_
    refine lv_iadd hx hb dL_law_841 ?_
    rw [nI_add]
    refine l_sld hx hb hX hbl hbA hLL hW (by omega) dL_law_842 ?_
    refine lv_if_eq (tgt := 850) hx hb dL_law_843 (by decide) (fun c_843 => ?_) (fun c_843 => ?_)
    · -- eq taken
      exact absurd c_843 c_810
    · -- eq not
      refine lv_iconst (v := nI (1)) hx hb dL_law_846 (by decide +kernel) ?_
      refine lv_goto (tgt := 851) hx hb dL_law_847 (by decide) ?_
      refine xv_i (k := 20) (i := 0) (As := [.int (xs (i + 1)), .int (xs (i + 2)), .int (nI (1))]) (rest := []) ⟨hx, hb, hml, hown, hts⟩ (c_X5_rebut l D sa xa1 (xGs (G30 D f1) D xa1 (t_rebut σ (xs (i + 1)) (xs (i + 2)) 1 k) τ1) σ ρ la hg (xs (i + 1)) (xs (i + 2)) 1 (by decide)) (cwV 3 hts gL_law_X5_rebut rfl rfl rfl (by decide +kernel) ⟨Nat.le_of_ble_eq_true rfl, Nat.le_of_ble_eq_true rfl⟩) hW (mG_obj _ _ _ _ _ _) rfl rfl rfl rfl hl.1 (Nat.le_of_ble_eq_true rfl) dL_law_851 ⟨by show cells + 6 + 0 ≤ 601024; omega, by show slots + 39 + 0 ≤ 7293034; omega⟩ (fun r2 xb G9 H locs hp hW => ?_)
      obtain ⟨k2, hgk2, hu, hr2⟩ := hp
      cases hu
      have hkk := gk.uniq hgk hgk2
      subst hkk
      refine lv_istore (lv' := [(6, .int (r2)), (0, .ref (b)), (1, .ref (xa1 0 0)), (2, .ref (xa1 20 0)), (3, .ref (xa1 30 0)), (4, .int (nI (i))), (5, .int (nI (k)))]) hx hb dL_law_854 hl (by decide) rfl (fun ls hl => ?_)
      have hl : lv_has ls 7 [(0, .ref (b)), (1, .ref (xa1 0 0)), (2, .ref (xa1 20 0)), (3, .ref (xa1 30 0)), (4, .int (nI (i))), (5, .int (nI (k))), (6, .int (r2))] := lv_sub hl [1, 2, 3, 4, 5, 6, 0] rfl
      refine lv_aload_n hx hb dL_law_856 rfl (lv_at hl 2 rfl) ?_
      refine xv_i (k := 20) (i := 0) (As := []) (rest := []) ⟨hx, hb, hml, hown, hts⟩ (c_X5_thrown l D sa xa1 (xGs (G30 D f1) D xa1 (t_rebut σ (xs (i + 1)) (xs (i + 2)) 1 k) τ1) (t_rebut σ (xs (i + 1)) (xs (i + 2)) 1 k) ρ k hg1) (cwV 0 hts gL_law_X5_thrown rfl rfl rfl (by decide +kernel) ⟨Nat.le_of_ble_eq_true rfl, Nat.le_of_ble_eq_true rfl⟩) hW (mG_obj _ _ _ _ _ _) rfl rfl rfl rfl hl.1 (Nat.le_of_ble_eq_true rfl) dL_law_857 ⟨by show cells + 6 + 0 + 0 ≤ 601024; omega, by show slots + 39 + 0 + 0 ≤ 7293034; omega⟩ (fun r3 xb G9 H locs hp hW => ?_)
      obtain ⟨hu, hr3⟩ := hp
      cases hu
      subst hr3
      refine lv_iload hx hb dL_law_860 (lv_at hl 5 rfl) ?_
      refine lv_icmp_eq (tgt := 867) hx hb dL_law_862 (by decide) (fun c_862 => ?_) (fun c_862 => ?_)
      · -- eq taken
        have c_862 := (x_eqN (a := k) (b := k) (by omega) (by omega)).mp c_862
        refine lv_iload hx hb dL_law_867 (lv_at hl 5 rfl) ?_
        refine lv_if_ne (tgt := 891) hx hb dL_law_869 (by decide) (fun c_869 => ?_) (fun c_869 => ?_)
        · -- ne taken
          have c_869 : ¬ (k = 0) := fun h_ => c_869 ((x_eqZ (a := k) (by omega)).mpr h_)
          refine lv_goto (tgt := 1631) hx hb dL_law_891 (by decide) ?_
          exact kk xa1 (t_rebut σ (xs (i + 1)) (xs (i + 2)) 1 k) τ1 ρ k f1 _ _ _ (hW.eqG lG_m) hg1 hL1 hT1 (lv_sub hl [0, 1, 2, 3, 4] rfl)
        · -- ne not
          have c_869 := (x_eqZ (a := k) (by omega)).mp c_869
          refine lv_aload_n hx hb dL_law_872 rfl (lv_at hl 3 rfl) ?_
          refine lv_iconst (v := nI (0)) hx hb dL_law_873 (by decide +kernel) ?_
          refine x_lld hx hb hW 30 0 (n := 1) (f := f1) ((if_neg (by omega)).trans ((if_neg (by omega)).trans (xup_self _ _ _ _))) 0 rfl (by omega) (by omega) rfl dL_law_874 ?_
          refine lv_iload hx hb dL_law_875 (lv_at hl 6 rfl) ?_
          have hb2 := hr2 c_869
          refine lv_if_eq (tgt := 884) hx hb dL_law_877 (by decide) (fun c_877 => ?_) (fun c_877 => ?_)
          · -- eq taken
            have c_877 := hb2.f c_877
            refine lv_lconst (v := 0) hx hb dL_law_884 (by decide +kernel) ?_
            refine W.lcmp hx hb dL_law_885 ?_
            have heq : f1 0 = 0 := (hans c_869).elim (fun h => absurd h.1 c_877) (fun h => h.2)
            rw [heq, l_cmp]
            refine lv_if_eq (tgt := 891) hx hb dL_law_886 (by decide) (fun c_886 => ?_) (fun c_886 => ?_)
            · -- eq taken
              refine lv_goto (tgt := 1631) hx hb dL_law_891 (by decide) ?_
              exact kk xa1 (t_rebut σ (xs (i + 1)) (xs (i + 2)) 1 k) τ1 ρ k f1 _ _ _ (hW.eqG lG_m) hg1 hL1 hT1 (lv_sub hl [0, 1, 2, 3, 4] rfl)
            · -- eq not
              exact absurd rfl c_886
          · -- eq not
            have c_877 := hb2.t c_877
            refine lv_lconst (v := 1) hx hb dL_law_880 (by decide +kernel) ?_
            refine lv_goto (tgt := 885) hx hb dL_law_881 (by decide) ?_
            refine W.lcmp hx hb dL_law_885 ?_
            have heq : f1 0 = 1 := (hans c_869).elim (fun h => h.2) (fun h => absurd c_877 h.1)
            rw [heq, l_cmp]
            refine lv_if_eq (tgt := 891) hx hb dL_law_886 (by decide) (fun c_886 => ?_) (fun c_886 => ?_)
            · -- eq taken
              refine lv_goto (tgt := 1631) hx hb dL_law_891 (by decide) ?_
              exact kk xa1 (t_rebut σ (xs (i + 1)) (xs (i + 2)) 1 k) τ1 ρ k f1 _ _ _ (hW.eqG lG_m) hg1 hL1 hT1 (lv_sub hl [0, 1, 2, 3, 4] rfl)
            · -- eq not
              exact absurd rfl c_886
      · -- eq not
        have c_862 : ¬ (k = k) := fun h_ => c_862 ((x_eqN (a := k) (b := k) (by omega) (by omega)).mpr h_)
        exact absurd rfl c_862

set_option maxHeartbeats 4000000 in
set_option maxRecDepth 100000 in
theorem op_settle (l : Launch) (hst0 : l.stackTraces = false) {p : Program} {e : Env} {s : State} {m : MethodId} {args : Array Value} {below : List Frame} {meth : Method} {c : Code} {H : Heap} {locs : List Loc} {cells slots : Nat} {Q : State → Prop} {ls : Array Slot} {D : xD} {sa : Nat → Nat} {A : Nat → Prop} {xa : xA} {σ : Sg} {τ : Tg} {ρ : Nat → Nat} {la : Nat} {f : Nat → Int64} {b L i : Nat} {xs : Nat → Int32} (hx : p.tables.exec = Jvm.exec) (hb : c.code = cL_law) (hml : c.maxLocals = 7) (hown : s.vm.findClass RL = some m.cls) (hts : ∀ w ∈ wsL_law, w.before args s = true) (hX : va_X b L xs s s.heap) (hbl : b < s.heap.size) (hbA : ¬ A b) (hLL : L ≤ 3072) (hi : i + 6 ≤ L) (hc6 : cells + 6 ≤ 601024) (hs39 : slots + 39 ≤ 7293034) (hW : xW D sa A s xa (lG D xa σ τ ρ la f) H locs) (hg : Gd σ) (hL : LL σ τ) (hT : TE σ τ) (hl : lv_has ls 7 [(0, .ref (b)), (1, .ref (xa 0 0)), (2, .ref (xa 20 0)), (3, .ref (xa 30 0)), (4, .int (nI (i)))])
    (kk : ∀ (xa1 : xA) (σ1 : Sg) (τ1 : Tg) (ρ1 : Nat → Nat) (la1 : Nat) (f1 : Nat → Int64) (H1 : Heap) (locs1 : List Loc) (ls1 : Array Slot), xW D sa A s xa1 (lG D xa1 σ1 τ1 ρ1 la1 f1) H1 locs1 → Gd σ1 → LL σ1 τ1 → TE σ1 τ1 → lv_has ls1 7 [(0, .ref (b)), (1, .ref (xa1 0 0)), (2, .ref (xa1 20 0)), (3, .ref (xa1 30 0)), (4, .int (nI (i)))] → W p l e room_1 s m args below meth c H1 locs1 (cells + 6) (slots + 39) Q (F0 m 1631 ls1 [])) : W p l e room_1 s m args below meth c H locs cells slots Q (F0 m 894 ls []) := by
  refine lv_aload_n hx hb dL_law_894 rfl (lv_at hl 1 rfl) ?_
  refine lv_aload_n hx hb dL_law_895 rfl (lv_at hl 0 rfl) ?_
  refine lv_iload hx hb dL_law_896 (lv_at hl 4 rfl) ?_
  refine lv_iconst (v := nI (1)) hx hb dL_law_898 (by decide +kernel) ?_
  refine lv_iadd hx hb dL_law_899 ?_
  rw [nI_add]
  refine l_sld hx hb hX hbl hbA hLL hW (by omega) dL_law_900 ?_
  refine lv_aload_n hx hb dL_law_901 rfl (lv_at hl 0 rfl) ?_
  refine lv_iload hx hb dL_law_902 (lv_at hl 4 rfl) ?_
  refine lv_iconst (v := nI (2)) hx hb dL_law_904 (by decide +kernel) ?_
  refine lv_iadd hx hb dL_law_905 ?_
  rw [nI_add]
  refine l_sld hx hb hX hbl hbA hLL hW (by omega) dL_law_906 ?_
  refine lv_aload_n hx hb dL_law_907 rfl (lv_at hl 0 rfl) ?_
  refine lv_iload hx hb dL_law_908 (lv_at hl 4 rfl) ?_
  refine lv_iconst (v := nI (3)) hx hb dL_law_910 (by decide +kernel) ?_
  refine lv_iadd hx hb dL_law_911 ?_
  rw [nI_add]
  refine l_sld hx hb hX hbl hbA hLL hW (by omega) dL_law_912 ?_
  refine lv_if_eq (tgt := 920) hx hb dL_law_913 (by decide) (fun c_913 => ?_) (fun c_913 => ?_)
  · -- eq taken
    refine lv_iconst (v := nI (0)) hx hb dL_law_920 (by decide +kernel) ?_
    refine lv_aload_n hx hb dL_law_921 rfl (lv_at hl 3 rfl) ?_
    refine xsw_i (As := [.ref (xa 0 0), .int (xs (i + 1)), .int (xs (i + 2)), .int (nI (0)), .ref (xa 30 0)]) (rest := []) ⟨hx, hb, hml, hown, hts⟩ (c_L_settle l hst0 D sa xa (mG (G30 D f) D xa σ ρ la) σ τ hg hL hT f G30_O (xs (i + 1)) (xs (i + 2)) 0 (by decide)) (vx_cwSW (hh := [(0, 19, 22, 13)]) 5 hts gL_law_L_settle rfl rfl rfl (by decide +kernel) ⟨Nat.le_of_ble_eq_true rfl, Nat.le_of_ble_eq_true rfl⟩) hW rfl rfl hl.1 (Nat.le_of_ble_eq_true rfl) dL_law_922 ⟨by show cells + 3 ≤ 601024; omega, by show slots + 18 ≤ 7293034; omega⟩ (fun rk xb G9 H locs hp hW => ?_)
    obtain ⟨k, f1, hgk, rfl, xa1, τ1, hag, hu, hL1, hT1, hans⟩ := hp
    have hu2 : G9 = _ := congrArg Prod.snd hu
    subst hu2
    have hu1 : xa1 = xb := (congrArg Prod.fst hu).symm
    subst hu1
    have hW : xW D sa A s xa1 (mG (xGs (G30 D f1) D xa1 (t_settle σ (xs (i + 1)) (xs (i + 2)) 0 k) τ1) D xa1 σ ρ la) H locs := hW.eqG (lG_c (f := f) hag)
    refine W.widen (k := cells + 6) (n := slots + 39) (by omega) (by omega) ?_
    have hl : lv_has ls 7 [(0, .ref (b)), (1, .ref (xa1 0 0)), (2, .ref (xa1 20 0)), (3, .ref (xa1 30 0)), (4, .int (nI (i)))] := by rw [hag 0 0 (by omega), hag 20 0 (by omega), hag 30 0 (by omega)]; exact hl
    have hk4 := hgk.lt
    have hg1 : Gd (t_settle σ (xs (i + 1)) (xs (i + 2)) 0 k) := g_settle hg (by decide) hgk
    refine lv_istore (lv' := [(5, .int (nI (k))), (0, .ref (b)), (1, .ref (xa1 0 0)), (2, .ref (xa1 20 0)), (3, .ref (xa1 30 0)), (4, .int (nI (i)))]) hx hb dL_law_925 hl (by decide) rfl (fun ls hl => ?_)
    have hl : lv_has ls 7 [(0, .ref (b)), (1, .ref (xa1 0 0)), (2, .ref (xa1 20 0)), (3, .ref (xa1 30 0)), (4, .int (nI (i))), (5, .int (nI (k)))] := lv_sub hl [1, 2, 3, 4, 5, 0] rfl
    refine lv_aload_n hx hb dL_law_927 rfl (lv_at hl 2 rfl) ?_
    refine lv_aload_n hx hb dL_law_928 rfl (lv_at hl 0 rfl) ?_
    refine lv_iload hx hb dL_law_929 (lv_at hl 4 rfl) ?_
    refine lv_iconst (v := nI (1)) hx hb dL_law_931 (by decide +kernel) ?_
    refine lv_iadd hx hb dL_law_932 ?_
    rw [nI_add]
    refine l_sld hx hb hX hbl hbA hLL hW (by omega) dL_law_933 ?_
    refine lv_aload_n hx hb dL_law_934 rfl (lv_at hl 0 rfl) ?_
    refine lv_iload hx hb dL_law_935 (lv_at hl 4 rfl) ?_
    refine lv_iconst (v := nI (2)) hx hb dL_law_937 (by decide +kernel) ?_
    refine lv_iadd hx hb dL_law_938 ?_
    rw [nI_add]
    refine l_sld hx hb hX hbl hbA hLL hW (by omega) dL_law_939 ?_
    refine lv_aload_n hx hb dL_law_940 rfl (lv_at hl 0 rfl) ?_
    refine lv_iload hx hb dL_law_941 (lv_at hl 4 rfl) ?_
    refine lv_iconst (v := nI (3)) hx hb dL_law_943 (by decide +kernel) ?_
    refine lv_iadd hx hb dL_law_944 ?_
    rw [nI_add]
    refine l_sld hx hb hX hbl hbA hLL hW (by omega) dL_law_945 ?_
    refine lv_if_eq (tgt := 953) hx hb dL_law_946 (by decide) (fun c_946 => ?_) (fun c_946 => ?_)
    · -- eq taken
      refine lv_iconst (v := nI (0)) hx hb dL_law_953 (by decide +kernel) ?_
      refine xv_i (k := 20) (i := 0) (As := [.int (xs (i + 1)), .int (xs (i + 2)), .int (nI (0))]) (rest := []) ⟨hx, hb, hml, hown, hts⟩ (c_X5_settle l D sa xa1 (xGs (G30 D f1) D xa1 (t_settle σ (xs (i + 1)) (xs (i + 2)) 0 k) τ1) σ ρ la hg (xs (i + 1)) (xs (i + 2)) 0 (by decide)) (cwV 3 hts gL_law_X5_settle rfl rfl rfl (by decide +kernel) ⟨Nat.le_of_ble_eq_true rfl, Nat.le_of_ble_eq_true rfl⟩) hW (mG_obj _ _ _ _ _ _) rfl rfl rfl rfl hl.1 (Nat.le_of_ble_eq_true rfl) dL_law_954 ⟨by show cells + 6 + 0 ≤ 601024; omega, by show slots + 39 + 0 ≤ 7293034; omega⟩ (fun r2 xb G9 H locs hp hW => ?_)
      obtain ⟨k2, hgk2, hu, hr2⟩ := hp
      cases hu
      have hkk := gk.uniq hgk hgk2
      subst hkk
      refine lv_istore (lv' := [(6, .int (r2)), (0, .ref (b)), (1, .ref (xa1 0 0)), (2, .ref (xa1 20 0)), (3, .ref (xa1 30 0)), (4, .int (nI (i))), (5, .int (nI (k)))]) hx hb dL_law_957 hl (by decide) rfl (fun ls hl => ?_)
      have hl : lv_has ls 7 [(0, .ref (b)), (1, .ref (xa1 0 0)), (2, .ref (xa1 20 0)), (3, .ref (xa1 30 0)), (4, .int (nI (i))), (5, .int (nI (k))), (6, .int (r2))] := lv_sub hl [1, 2, 3, 4, 5, 6, 0] rfl
      refine lv_aload_n hx hb dL_law_959 rfl (lv_at hl 2 rfl) ?_
      refine xv_i (k := 20) (i := 0) (As := []) (rest := []) ⟨hx, hb, hml, hown, hts⟩ (c_X5_thrown l D sa xa1 (xGs (G30 D f1) D xa1 (t_settle σ (xs (i + 1)) (xs (i + 2)) 0 k) τ1) (t_settle σ (xs (i + 1)) (xs (i + 2)) 0 k) ρ k hg1) (cwV 0 hts gL_law_X5_thrown rfl rfl rfl (by decide +kernel) ⟨Nat.le_of_ble_eq_true rfl, Nat.le_of_ble_eq_true rfl⟩) hW (mG_obj _ _ _ _ _ _) rfl rfl rfl rfl hl.1 (Nat.le_of_ble_eq_true rfl) dL_law_960 ⟨by show cells + 6 + 0 + 0 ≤ 601024; omega, by show slots + 39 + 0 + 0 ≤ 7293034; omega⟩ (fun r3 xb G9 H locs hp hW => ?_)
      obtain ⟨hu, hr3⟩ := hp
      cases hu
      subst hr3
      refine lv_iload hx hb dL_law_963 (lv_at hl 5 rfl) ?_
      refine lv_icmp_eq (tgt := 970) hx hb dL_law_965 (by decide) (fun c_965 => ?_) (fun c_965 => ?_)
      · -- eq taken
        have c_965 := (x_eqN (a := k) (b := k) (by omega) (by omega)).mp c_965
        refine lv_iload hx hb dL_law_970 (lv_at hl 5 rfl) ?_
        refine lv_if_ne (tgt := 994) hx hb dL_law_972 (by decide) (fun c_972 => ?_) (fun c_972 => ?_)
        · -- ne taken
          have c_972 : ¬ (k = 0) := fun h_ => c_972 ((x_eqZ (a := k) (by omega)).mpr h_)
          refine lv_goto (tgt := 1631) hx hb dL_law_994 (by decide) ?_
          exact kk xa1 (t_settle σ (xs (i + 1)) (xs (i + 2)) 0 k) τ1 ρ k f1 _ _ _ (hW.eqG lG_m) hg1 hL1 hT1 (lv_sub hl [0, 1, 2, 3, 4] rfl)
        · -- ne not
          have c_972 := (x_eqZ (a := k) (by omega)).mp c_972
          refine lv_aload_n hx hb dL_law_975 rfl (lv_at hl 3 rfl) ?_
          refine lv_iconst (v := nI (0)) hx hb dL_law_976 (by decide +kernel) ?_
          refine x_lld hx hb hW 30 0 (n := 1) (f := f1) ((if_neg (by omega)).trans ((if_neg (by omega)).trans (xup_self _ _ _ _))) 0 rfl (by omega) (by omega) rfl dL_law_977 ?_
          refine lv_iload hx hb dL_law_978 (lv_at hl 6 rfl) ?_
          have hb2 := hr2 c_972
          refine lv_if_eq (tgt := 987) hx hb dL_law_980 (by decide) (fun c_980 => ?_) (fun c_980 => ?_)
          · -- eq taken
            have c_980 := hb2.f c_980
            refine lv_lconst (v := 0) hx hb dL_law_987 (by decide +kernel) ?_
            refine W.lcmp hx hb dL_law_988 ?_
            have heq : f1 0 = 0 := (hans c_972).elim (fun h => absurd h.1 c_980) (fun h => h.2)
            rw [heq, l_cmp]
            refine lv_if_eq (tgt := 994) hx hb dL_law_989 (by decide) (fun c_989 => ?_) (fun c_989 => ?_)
            · -- eq taken
              refine lv_goto (tgt := 1631) hx hb dL_law_994 (by decide) ?_
              exact kk xa1 (t_settle σ (xs (i + 1)) (xs (i + 2)) 0 k) τ1 ρ k f1 _ _ _ (hW.eqG lG_m) hg1 hL1 hT1 (lv_sub hl [0, 1, 2, 3, 4] rfl)
            · -- eq not
              exact absurd rfl c_989
          · -- eq not
            have c_980 := hb2.t c_980
            refine lv_lconst (v := 1) hx hb dL_law_983 (by decide +kernel) ?_
            refine lv_goto (tgt := 988) hx hb dL_law_984 (by decide) ?_
            refine W.lcmp hx hb dL_law_988 ?_
            have heq : f1 0 = 1 := (hans c_972).elim (fun h => h.2) (fun h => absurd c_980 h.1)
            rw [heq, l_cmp]
            refine lv_if_eq (tgt := 994) hx hb dL_law_989 (by decide) (fun c_989 => ?_) (fun c_989 => ?_)
            · -- eq taken
              refine lv_goto (tgt := 1631) hx hb dL_law_994 (by decide) ?_
              exact kk xa1 (t_settle σ (xs (i + 1)) (xs (i + 2)) 0 k) τ1 ρ k f1 _ _ _ (hW.eqG lG_m) hg1 hL1 hT1 (lv_sub hl [0, 1, 2, 3, 4] rfl)
            · -- eq not
              exact absurd rfl c_989
      · -- eq not
        have c_965 : ¬ (k = k) := fun h_ => c_965 ((x_eqN (a := k) (b := k) (by omega) (by omega)).mpr h_)
        exact absurd rfl c_965
    · -- eq not
      exact absurd c_913 c_946
  · -- eq not
    refine lv_iconst (v := nI (1)) hx hb dL_law_916 (by decide +kernel) ?_
    refine lv_goto (tgt := 921) hx hb dL_law_917 (by decide) ?_
    refine lv_aload_n hx hb dL_law_921 rfl (lv_at hl 3 rfl) ?_
    refine xsw_i (As := [.ref (xa 0 0), .int (xs (i + 1)), .int (xs (i + 2)), .int (nI (1)), .ref (xa 30 0)]) (rest := []) ⟨hx, hb, hml, hown, hts⟩ (c_L_settle l hst0 D sa xa (mG (G30 D f) D xa σ ρ la) σ τ hg hL hT f G30_O (xs (i + 1)) (xs (i + 2)) 1 (by decide)) (vx_cwSW (hh := [(0, 19, 22, 13)]) 5 hts gL_law_L_settle rfl rfl rfl (by decide +kernel) ⟨Nat.le_of_ble_eq_true rfl, Nat.le_of_ble_eq_true rfl⟩) hW rfl rfl hl.1 (Nat.le_of_ble_eq_true rfl) dL_law_922 ⟨by show cells + 3 ≤ 601024; omega, by show slots + 18 ≤ 7293034; omega⟩ (fun rk xb G9 H locs hp hW => ?_)
    obtain ⟨k, f1, hgk, rfl, xa1, τ1, hag, hu, hL1, hT1, hans⟩ := hp
    have hu2 : G9 = _ := congrArg Prod.snd hu
    subst hu2
    have hu1 : xa1 = xb := (congrArg Prod.fst hu).symm
    subst hu1
    have hW : xW D sa A s xa1 (mG (xGs (G30 D f1) D xa1 (t_settle σ (xs (i + 1)) (xs (i + 2)) 1 k) τ1) D xa1 σ ρ la) H locs := hW.eqG (lG_c (f := f) hag)
    refine W.widen (k := cells + 6) (n := slots + 39) (by omega) (by omega) ?_
    have hl : lv_has ls 7 [(0, .ref (b)), (1, .ref (xa1 0 0)), (2, .ref (xa1 20 0)), (3, .ref (xa1 30 0)), (4, .int (nI (i)))] := by rw [hag 0 0 (by omega), hag 20 0 (by omega), hag 30 0 (by omega)]; exact hl
    have hk4 := hgk.lt
    have hg1 : Gd (t_settle σ (xs (i + 1)) (xs (i + 2)) 1 k) := g_settle hg (by decide) hgk
    refine lv_istore (lv' := [(5, .int (nI (k))), (0, .ref (b)), (1, .ref (xa1 0 0)), (2, .ref (xa1 20 0)), (3, .ref (xa1 30 0)), (4, .int (nI (i)))]) hx hb dL_law_925 hl (by decide) rfl (fun ls hl => ?_)
    have hl : lv_has ls 7 [(0, .ref (b)), (1, .ref (xa1 0 0)), (2, .ref (xa1 20 0)), (3, .ref (xa1 30 0)), (4, .int (nI (i))), (5, .int (nI (k)))] := lv_sub hl [1, 2, 3, 4, 5, 0] rfl
    refine lv_aload_n hx hb dL_law_927 rfl (lv_at hl 2 rfl) ?_
    refine lv_aload_n hx hb dL_law_928 rfl (lv_at hl 0 rfl) ?_
    refine lv_iload hx hb dL_law_929 (lv_at hl 4 rfl) ?_
    refine lv_iconst (v := nI (1)) hx hb dL_law_931 (by decide +kernel) ?_
    refine lv_iadd hx hb dL_law_932 ?_
    rw [nI_add]
    refine l_sld hx hb hX hbl hbA hLL hW (by omega) dL_law_933 ?_
    refine lv_aload_n hx hb dL_law_934 rfl (lv_at hl 0 rfl) ?_
    refine lv_iload hx hb dL_law_935 (lv_at hl 4 rfl) ?_
    refine lv_iconst (v := nI (2)) hx hb dL_law_937 (by decide +kernel) ?_
    refine lv_iadd hx hb dL_law_938 ?_
    rw [nI_add]
    refine l_sld hx hb hX hbl hbA hLL hW (by omega) dL_law_939 ?_
    refine lv_aload_n hx hb dL_law_940 rfl (lv_at hl 0 rfl) ?_
    refine lv_iload hx hb dL_law_941 (lv_at hl 4 rfl) ?_
    refine lv_iconst (v := nI (3)) hx hb dL_law_943 (by decide +kernel) ?_
    refine lv_iadd hx hb dL_law_944 ?_
    rw [nI_add]
    refine l_sld hx hb hX hbl hbA hLL hW (by omega) dL_law_945 ?_
    refine lv_if_eq (tgt := 953) hx hb dL_law_946 (by decide) (fun c_946 => ?_) (fun c_946 => ?_)
    · -- eq taken
      exact absurd c_946 c_913
    · -- eq not
      refine lv_iconst (v := nI (1)) hx hb dL_law_949 (by decide +kernel) ?_
      refine lv_goto (tgt := 954) hx hb dL_law_950 (by decide) ?_
      refine xv_i (k := 20) (i := 0) (As := [.int (xs (i + 1)), .int (xs (i + 2)), .int (nI (1))]) (rest := []) ⟨hx, hb, hml, hown, hts⟩ (c_X5_settle l D sa xa1 (xGs (G30 D f1) D xa1 (t_settle σ (xs (i + 1)) (xs (i + 2)) 1 k) τ1) σ ρ la hg (xs (i + 1)) (xs (i + 2)) 1 (by decide)) (cwV 3 hts gL_law_X5_settle rfl rfl rfl (by decide +kernel) ⟨Nat.le_of_ble_eq_true rfl, Nat.le_of_ble_eq_true rfl⟩) hW (mG_obj _ _ _ _ _ _) rfl rfl rfl rfl hl.1 (Nat.le_of_ble_eq_true rfl) dL_law_954 ⟨by show cells + 6 + 0 ≤ 601024; omega, by show slots + 39 + 0 ≤ 7293034; omega⟩ (fun r2 xb G9 H locs hp hW => ?_)
      obtain ⟨k2, hgk2, hu, hr2⟩ := hp
      cases hu
      have hkk := gk.uniq hgk hgk2
      subst hkk
      refine lv_istore (lv' := [(6, .int (r2)), (0, .ref (b)), (1, .ref (xa1 0 0)), (2, .ref (xa1 20 0)), (3, .ref (xa1 30 0)), (4, .int (nI (i))), (5, .int (nI (k)))]) hx hb dL_law_957 hl (by decide) rfl (fun ls hl => ?_)
      have hl : lv_has ls 7 [(0, .ref (b)), (1, .ref (xa1 0 0)), (2, .ref (xa1 20 0)), (3, .ref (xa1 30 0)), (4, .int (nI (i))), (5, .int (nI (k))), (6, .int (r2))] := lv_sub hl [1, 2, 3, 4, 5, 6, 0] rfl
      refine lv_aload_n hx hb dL_law_959 rfl (lv_at hl 2 rfl) ?_
      refine xv_i (k := 20) (i := 0) (As := []) (rest := []) ⟨hx, hb, hml, hown, hts⟩ (c_X5_thrown l D sa xa1 (xGs (G30 D f1) D xa1 (t_settle σ (xs (i + 1)) (xs (i + 2)) 1 k) τ1) (t_settle σ (xs (i + 1)) (xs (i + 2)) 1 k) ρ k hg1) (cwV 0 hts gL_law_X5_thrown rfl rfl rfl (by decide +kernel) ⟨Nat.le_of_ble_eq_true rfl, Nat.le_of_ble_eq_true rfl⟩) hW (mG_obj _ _ _ _ _ _) rfl rfl rfl rfl hl.1 (Nat.le_of_ble_eq_true rfl) dL_law_960 ⟨by show cells + 6 + 0 + 0 ≤ 601024; omega, by show slots + 39 + 0 + 0 ≤ 7293034; omega⟩ (fun r3 xb G9 H locs hp hW => ?_)
      obtain ⟨hu, hr3⟩ := hp
      cases hu
      subst hr3
      refine lv_iload hx hb dL_law_963 (lv_at hl 5 rfl) ?_
      refine lv_icmp_eq (tgt := 970) hx hb dL_law_965 (by decide) (fun c_965 => ?_) (fun c_965 => ?_)
      · -- eq taken
        have c_965 := (x_eqN (a := k) (b := k) (by omega) (by omega)).mp c_965
        refine lv_iload hx hb dL_law_970 (lv_at hl 5 rfl) ?_
        refine lv_if_ne (tgt := 994) hx hb dL_law_972 (by decide) (fun c_972 => ?_) (fun c_972 => ?_)
        · -- ne taken
          have c_972 : ¬ (k = 0) := fun h_ => c_972 ((x_eqZ (a := k) (by omega)).mpr h_)
          refine lv_goto (tgt := 1631) hx hb dL_law_994 (by decide) ?_
          exact kk xa1 (t_settle σ (xs (i + 1)) (xs (i + 2)) 1 k) τ1 ρ k f1 _ _ _ (hW.eqG lG_m) hg1 hL1 hT1 (lv_sub hl [0, 1, 2, 3, 4] rfl)
        · -- ne not
          have c_972 := (x_eqZ (a := k) (by omega)).mp c_972
          refine lv_aload_n hx hb dL_law_975 rfl (lv_at hl 3 rfl) ?_
          refine lv_iconst (v := nI (0)) hx hb dL_law_976 (by decide +kernel) ?_
          refine x_lld hx hb hW 30 0 (n := 1) (f := f1) ((if_neg (by omega)).trans ((if_neg (by omega)).trans (xup_self _ _ _ _))) 0 rfl (by omega) (by omega) rfl dL_law_977 ?_
          refine lv_iload hx hb dL_law_978 (lv_at hl 6 rfl) ?_
          have hb2 := hr2 c_972
          refine lv_if_eq (tgt := 987) hx hb dL_law_980 (by decide) (fun c_980 => ?_) (fun c_980 => ?_)
          · -- eq taken
            have c_980 := hb2.f c_980
            refine lv_lconst (v := 0) hx hb dL_law_987 (by decide +kernel) ?_
            refine W.lcmp hx hb dL_law_988 ?_
            have heq : f1 0 = 0 := (hans c_972).elim (fun h => absurd h.1 c_980) (fun h => h.2)
            rw [heq, l_cmp]
            refine lv_if_eq (tgt := 994) hx hb dL_law_989 (by decide) (fun c_989 => ?_) (fun c_989 => ?_)
            · -- eq taken
              refine lv_goto (tgt := 1631) hx hb dL_law_994 (by decide) ?_
              exact kk xa1 (t_settle σ (xs (i + 1)) (xs (i + 2)) 1 k) τ1 ρ k f1 _ _ _ (hW.eqG lG_m) hg1 hL1 hT1 (lv_sub hl [0, 1, 2, 3, 4] rfl)
            · -- eq not
              exact absurd rfl c_989
          · -- eq not
            have c_980 := hb2.t c_980
            refine lv_lconst (v := 1) hx hb dL_law_983 (by decide +kernel) ?_
            refine lv_goto (tgt := 988) hx hb dL_law_984 (by decide) ?_
            refine W.lcmp hx hb dL_law_988 ?_
            have heq : f1 0 = 1 := (hans c_972).elim (fun h => h.2) (fun h => absurd c_980 h.1)
            rw [heq, l_cmp]
            refine lv_if_eq (tgt := 994) hx hb dL_law_989 (by decide) (fun c_989 => ?_) (fun c_989 => ?_)
            · -- eq taken
              refine lv_goto (tgt := 1631) hx hb dL_law_994 (by decide) ?_
              exact kk xa1 (t_settle σ (xs (i + 1)) (xs (i + 2)) 1 k) τ1 ρ k f1 _ _ _ (hW.eqG lG_m) hg1 hL1 hT1 (lv_sub hl [0, 1, 2, 3, 4] rfl)
            · -- eq not
              exact absurd rfl c_989
      · -- eq not
        have c_965 : ¬ (k = k) := fun h_ => c_965 ((x_eqN (a := k) (b := k) (by omega) (by omega)).mpr h_)
        exact absurd rfl c_965

set_option maxHeartbeats 4000000 in
set_option maxRecDepth 100000 in
theorem op_isPersecuted (l : Launch) (hst0 : l.stackTraces = false) {p : Program} {e : Env} {s : State} {m : MethodId} {args : Array Value} {below : List Frame} {meth : Method} {c : Code} {H : Heap} {locs : List Loc} {cells slots : Nat} {Q : State → Prop} {ls : Array Slot} {D : xD} {sa : Nat → Nat} {A : Nat → Prop} {xa : xA} {σ : Sg} {τ : Tg} {ρ : Nat → Nat} {la : Nat} {f : Nat → Int64} {b L i : Nat} {xs : Nat → Int32} (hx : p.tables.exec = Jvm.exec) (hb : c.code = cL_law) (hml : c.maxLocals = 7) (hown : s.vm.findClass RL = some m.cls) (hts : ∀ w ∈ wsL_law, w.before args s = true) (hX : va_X b L xs s s.heap) (hbl : b < s.heap.size) (hbA : ¬ A b) (hLL : L ≤ 3072) (hi : i + 6 ≤ L) (hc6 : cells + 6 ≤ 601024) (hs39 : slots + 39 ≤ 7293034) (hW : xW D sa A s xa (lG D xa σ τ ρ la f) H locs) (hg : Gd σ) (hL : LL σ τ) (hT : TE σ τ) (hl : lv_has ls 7 [(0, .ref (b)), (1, .ref (xa 0 0)), (2, .ref (xa 20 0)), (3, .ref (xa 30 0)), (4, .int (nI (i)))])
    (kk : ∀ (xa1 : xA) (σ1 : Sg) (τ1 : Tg) (ρ1 : Nat → Nat) (la1 : Nat) (f1 : Nat → Int64) (H1 : Heap) (locs1 : List Loc) (ls1 : Array Slot), xW D sa A s xa1 (lG D xa1 σ1 τ1 ρ1 la1 f1) H1 locs1 → Gd σ1 → LL σ1 τ1 → TE σ1 τ1 → lv_has ls1 7 [(0, .ref (b)), (1, .ref (xa1 0 0)), (2, .ref (xa1 20 0)), (3, .ref (xa1 30 0)), (4, .int (nI (i)))] → W p l e room_1 s m args below meth c H1 locs1 (cells + 6) (slots + 39) Q (F0 m 1631 ls1 [])) : W p l e room_1 s m args below meth c H locs cells slots Q (F0 m 997 ls []) := by
  refine lv_aload_n hx hb dL_law_997 rfl (lv_at hl 1 rfl) ?_
  refine lv_aload_n hx hb dL_law_998 rfl (lv_at hl 0 rfl) ?_
  refine lv_iload hx hb dL_law_999 (lv_at hl 4 rfl) ?_
  refine lv_iconst (v := nI (1)) hx hb dL_law_1001 (by decide +kernel) ?_
  refine lv_iadd hx hb dL_law_1002 ?_
  rw [nI_add]
  refine l_sld hx hb hX hbl hbA hLL hW (by omega) dL_law_1003 ?_
  refine lv_aload_n hx hb dL_law_1004 rfl (lv_at hl 0 rfl) ?_
  refine lv_iload hx hb dL_law_1005 (lv_at hl 4 rfl) ?_
  refine lv_iconst (v := nI (2)) hx hb dL_law_1007 (by decide +kernel) ?_
  refine lv_iadd hx hb dL_law_1008 ?_
  rw [nI_add]
  refine l_sld hx hb hX hbl hbA hLL hW (by omega) dL_law_1009 ?_
  refine lv_aload_n hx hb dL_law_1010 rfl (lv_at hl 0 rfl) ?_
  refine lv_iload hx hb dL_law_1011 (lv_at hl 4 rfl) ?_
  refine lv_iconst (v := nI (3)) hx hb dL_law_1013 (by decide +kernel) ?_
  refine lv_iadd hx hb dL_law_1014 ?_
  rw [nI_add]
  refine l_sld hx hb hX hbl hbA hLL hW (by omega) dL_law_1015 ?_
  refine lv_aload_n hx hb dL_law_1016 rfl (lv_at hl 3 rfl) ?_
  refine xsw_i (As := [.ref (xa 0 0), .int (xs (i + 1)), .int (xs (i + 2)), .int (xs (i + 3)), .ref (xa 30 0)]) (rest := []) ⟨hx, hb, hml, hown, hts⟩ (c_L_isPersecuted l hst0 D sa xa (mG (G30 D f) D xa σ ρ la) σ τ hg hL hT f G30_O (xs (i + 1)) (xs (i + 2)) (xs (i + 3))) (vx_cwSW (hh := [(0, 19, 22, 13), (0, 19, 26, 25)]) 5 hts gL_law_L_isPersecuted rfl rfl rfl (by decide +kernel) ⟨Nat.le_of_ble_eq_true rfl, Nat.le_of_ble_eq_true rfl⟩) hW rfl rfl hl.1 (Nat.le_of_ble_eq_true rfl) dL_law_1017 ⟨by show cells + 3 ≤ 601024; omega, by show slots + 18 ≤ 7293034; omega⟩ (fun rk xb G9 H locs hp hW => ?_)
  obtain ⟨k, f1, hgk, rfl, xa1, τ1, hag, hu, hL1, hT1, hans⟩ := hp
  have hu2 : G9 = _ := congrArg Prod.snd hu
  subst hu2
  have hu1 : xa1 = xb := (congrArg Prod.fst hu).symm
  subst hu1
  have hW : xW D sa A s xa1 (mG (xGs (G30 D f1) D xa1 σ τ1) D xa1 σ ρ la) H locs := hW.eqG (lG_c (f := f) hag)
  refine W.widen (k := cells + 6) (n := slots + 39) (by omega) (by omega) ?_
  have hl : lv_has ls 7 [(0, .ref (b)), (1, .ref (xa1 0 0)), (2, .ref (xa1 20 0)), (3, .ref (xa1 30 0)), (4, .int (nI (i)))] := by rw [hag 0 0 (by omega), hag 20 0 (by omega), hag 30 0 (by omega)]; exact hl
  have hk4 := hgk.lt
  have hg1 : Gd σ := hg
  refine lv_istore (lv' := [(5, .int (nI (k))), (0, .ref (b)), (1, .ref (xa1 0 0)), (2, .ref (xa1 20 0)), (3, .ref (xa1 30 0)), (4, .int (nI (i)))]) hx hb dL_law_1020 hl (by decide) rfl (fun ls hl => ?_)
  have hl : lv_has ls 7 [(0, .ref (b)), (1, .ref (xa1 0 0)), (2, .ref (xa1 20 0)), (3, .ref (xa1 30 0)), (4, .int (nI (i))), (5, .int (nI (k)))] := lv_sub hl [1, 2, 3, 4, 5, 0] rfl
  refine lv_aload_n hx hb dL_law_1022 rfl (lv_at hl 2 rfl) ?_
  refine lv_aload_n hx hb dL_law_1023 rfl (lv_at hl 0 rfl) ?_
  refine lv_iload hx hb dL_law_1024 (lv_at hl 4 rfl) ?_
  refine lv_iconst (v := nI (1)) hx hb dL_law_1026 (by decide +kernel) ?_
  refine lv_iadd hx hb dL_law_1027 ?_
  rw [nI_add]
  refine l_sld hx hb hX hbl hbA hLL hW (by omega) dL_law_1028 ?_
  refine lv_aload_n hx hb dL_law_1029 rfl (lv_at hl 0 rfl) ?_
  refine lv_iload hx hb dL_law_1030 (lv_at hl 4 rfl) ?_
  refine lv_iconst (v := nI (2)) hx hb dL_law_1032 (by decide +kernel) ?_
  refine lv_iadd hx hb dL_law_1033 ?_
  rw [nI_add]
  refine l_sld hx hb hX hbl hbA hLL hW (by omega) dL_law_1034 ?_
  refine lv_aload_n hx hb dL_law_1035 rfl (lv_at hl 0 rfl) ?_
  refine lv_iload hx hb dL_law_1036 (lv_at hl 4 rfl) ?_
  refine lv_iconst (v := nI (3)) hx hb dL_law_1038 (by decide +kernel) ?_
  refine lv_iadd hx hb dL_law_1039 ?_
  rw [nI_add]
  refine l_sld hx hb hX hbl hbA hLL hW (by omega) dL_law_1040 ?_
  refine xv_i (k := 20) (i := 0) (As := [.int (xs (i + 1)), .int (xs (i + 2)), .int (xs (i + 3))]) (rest := []) ⟨hx, hb, hml, hown, hts⟩ (c_X5_isPersecuted l D sa xa1 (xGs (G30 D f1) D xa1 σ τ1) σ ρ la hg (xs (i + 1)) (xs (i + 2)) (xs (i + 3))) (cwV 3 hts gL_law_X5_isPersecuted rfl rfl rfl (by decide +kernel) ⟨Nat.le_of_ble_eq_true rfl, Nat.le_of_ble_eq_true rfl⟩) hW (mG_obj _ _ _ _ _ _) rfl rfl rfl rfl hl.1 (Nat.le_of_ble_eq_true rfl) dL_law_1041 ⟨by show cells + 6 + 0 ≤ 601024; omega, by show slots + 39 + 0 ≤ 7293034; omega⟩ (fun r2 xb G9 H locs hp hW => ?_)
  obtain ⟨k2, hgk2, hu, hr2⟩ := hp
  cases hu
  have hkk := gk.uniq hgk hgk2
  subst hkk
  refine lv_istore (lv' := [(6, .int (r2)), (0, .ref (b)), (1, .ref (xa1 0 0)), (2, .ref (xa1 20 0)), (3, .ref (xa1 30 0)), (4, .int (nI (i))), (5, .int (nI (k)))]) hx hb dL_law_1044 hl (by decide) rfl (fun ls hl => ?_)
  have hl : lv_has ls 7 [(0, .ref (b)), (1, .ref (xa1 0 0)), (2, .ref (xa1 20 0)), (3, .ref (xa1 30 0)), (4, .int (nI (i))), (5, .int (nI (k))), (6, .int (r2))] := lv_sub hl [1, 2, 3, 4, 5, 6, 0] rfl
  refine lv_aload_n hx hb dL_law_1046 rfl (lv_at hl 2 rfl) ?_
  refine xv_i (k := 20) (i := 0) (As := []) (rest := []) ⟨hx, hb, hml, hown, hts⟩ (c_X5_thrown l D sa xa1 (xGs (G30 D f1) D xa1 σ τ1) σ ρ k hg1) (cwV 0 hts gL_law_X5_thrown rfl rfl rfl (by decide +kernel) ⟨Nat.le_of_ble_eq_true rfl, Nat.le_of_ble_eq_true rfl⟩) hW (mG_obj _ _ _ _ _ _) rfl rfl rfl rfl hl.1 (Nat.le_of_ble_eq_true rfl) dL_law_1047 ⟨by show cells + 6 + 0 + 0 ≤ 601024; omega, by show slots + 39 + 0 + 0 ≤ 7293034; omega⟩ (fun r3 xb G9 H locs hp hW => ?_)
  obtain ⟨hu, hr3⟩ := hp
  cases hu
  subst hr3
  refine lv_iload hx hb dL_law_1050 (lv_at hl 5 rfl) ?_
  refine lv_icmp_eq (tgt := 1057) hx hb dL_law_1052 (by decide) (fun c_1052 => ?_) (fun c_1052 => ?_)
  · -- eq taken
    have c_1052 := (x_eqN (a := k) (b := k) (by omega) (by omega)).mp c_1052
    refine lv_iload hx hb dL_law_1057 (lv_at hl 5 rfl) ?_
    refine lv_if_ne (tgt := 1081) hx hb dL_law_1059 (by decide) (fun c_1059 => ?_) (fun c_1059 => ?_)
    · -- ne taken
      have c_1059 : ¬ (k = 0) := fun h_ => c_1059 ((x_eqZ (a := k) (by omega)).mpr h_)
      refine lv_goto (tgt := 1631) hx hb dL_law_1081 (by decide) ?_
      exact kk xa1 σ τ1 ρ k f1 _ _ _ (hW.eqG lG_m) hg1 hL1 hT1 (lv_sub hl [0, 1, 2, 3, 4] rfl)
    · -- ne not
      have c_1059 := (x_eqZ (a := k) (by omega)).mp c_1059
      refine lv_aload_n hx hb dL_law_1062 rfl (lv_at hl 3 rfl) ?_
      refine lv_iconst (v := nI (0)) hx hb dL_law_1063 (by decide +kernel) ?_
      refine x_lld hx hb hW 30 0 (n := 1) (f := f1) ((if_neg (by omega)).trans ((if_neg (by omega)).trans (xup_self _ _ _ _))) 0 rfl (by omega) (by omega) rfl dL_law_1064 ?_
      refine lv_iload hx hb dL_law_1065 (lv_at hl 6 rfl) ?_
      have hb2 := hr2 c_1059
      refine lv_if_eq (tgt := 1074) hx hb dL_law_1067 (by decide) (fun c_1067 => ?_) (fun c_1067 => ?_)
      · -- eq taken
        have c_1067 := hb2.f c_1067
        refine lv_lconst (v := 0) hx hb dL_law_1074 (by decide +kernel) ?_
        refine W.lcmp hx hb dL_law_1075 ?_
        have heq : f1 0 = 0 := (hans c_1059).elim (fun h => absurd h.1 c_1067) (fun h => h.2)
        rw [heq, l_cmp]
        refine lv_if_eq (tgt := 1081) hx hb dL_law_1076 (by decide) (fun c_1076 => ?_) (fun c_1076 => ?_)
        · -- eq taken
          refine lv_goto (tgt := 1631) hx hb dL_law_1081 (by decide) ?_
          exact kk xa1 σ τ1 ρ k f1 _ _ _ (hW.eqG lG_m) hg1 hL1 hT1 (lv_sub hl [0, 1, 2, 3, 4] rfl)
        · -- eq not
          exact absurd rfl c_1076
      · -- eq not
        have c_1067 := hb2.t c_1067
        refine lv_lconst (v := 1) hx hb dL_law_1070 (by decide +kernel) ?_
        refine lv_goto (tgt := 1075) hx hb dL_law_1071 (by decide) ?_
        refine W.lcmp hx hb dL_law_1075 ?_
        have heq : f1 0 = 1 := (hans c_1059).elim (fun h => h.2) (fun h => absurd c_1067 h.1)
        rw [heq, l_cmp]
        refine lv_if_eq (tgt := 1081) hx hb dL_law_1076 (by decide) (fun c_1076 => ?_) (fun c_1076 => ?_)
        · -- eq taken
          refine lv_goto (tgt := 1631) hx hb dL_law_1081 (by decide) ?_
          exact kk xa1 σ τ1 ρ k f1 _ _ _ (hW.eqG lG_m) hg1 hL1 hT1 (lv_sub hl [0, 1, 2, 3, 4] rfl)
        · -- eq not
          exact absurd rfl c_1076
  · -- eq not
    have c_1052 : ¬ (k = k) := fun h_ => c_1052 ((x_eqN (a := k) (b := k) (by omega) (by omega)).mpr h_)
    exact absurd rfl c_1052

set_option maxHeartbeats 4000000 in
set_option maxRecDepth 100000 in
theorem op_heirOf (l : Launch) (hst0 : l.stackTraces = false) {p : Program} {e : Env} {s : State} {m : MethodId} {args : Array Value} {below : List Frame} {meth : Method} {c : Code} {H : Heap} {locs : List Loc} {cells slots : Nat} {Q : State → Prop} {ls : Array Slot} {D : xD} {sa : Nat → Nat} {A : Nat → Prop} {xa : xA} {σ : Sg} {τ : Tg} {ρ : Nat → Nat} {la : Nat} {f : Nat → Int64} {b L i : Nat} {xs : Nat → Int32} (hx : p.tables.exec = Jvm.exec) (hb : c.code = cL_law) (hml : c.maxLocals = 7) (hown : s.vm.findClass RL = some m.cls) (hts : ∀ w ∈ wsL_law, w.before args s = true) (hX : va_X b L xs s s.heap) (hbl : b < s.heap.size) (hbA : ¬ A b) (hLL : L ≤ 3072) (hi : i + 6 ≤ L) (hc6 : cells + 6 ≤ 601024) (hs39 : slots + 39 ≤ 7293034) (hW : xW D sa A s xa (lG D xa σ τ ρ la f) H locs) (hg : Gd σ) (hL : LL σ τ) (hT : TE σ τ) (hl : lv_has ls 7 [(0, .ref (b)), (1, .ref (xa 0 0)), (2, .ref (xa 20 0)), (3, .ref (xa 30 0)), (4, .int (nI (i)))])
    (kk : ∀ (xa1 : xA) (σ1 : Sg) (τ1 : Tg) (ρ1 : Nat → Nat) (la1 : Nat) (f1 : Nat → Int64) (H1 : Heap) (locs1 : List Loc) (ls1 : Array Slot), xW D sa A s xa1 (lG D xa1 σ1 τ1 ρ1 la1 f1) H1 locs1 → Gd σ1 → LL σ1 τ1 → TE σ1 τ1 → lv_has ls1 7 [(0, .ref (b)), (1, .ref (xa1 0 0)), (2, .ref (xa1 20 0)), (3, .ref (xa1 30 0)), (4, .int (nI (i)))] → W p l e room_1 s m args below meth c H1 locs1 (cells + 6) (slots + 39) Q (F0 m 1631 ls1 [])) : W p l e room_1 s m args below meth c H locs cells slots Q (F0 m 1084 ls []) := by
  refine lv_aload_n hx hb dL_law_1084 rfl (lv_at hl 1 rfl) ?_
  refine lv_aload_n hx hb dL_law_1085 rfl (lv_at hl 0 rfl) ?_
  refine lv_iload hx hb dL_law_1086 (lv_at hl 4 rfl) ?_
  refine lv_iconst (v := nI (1)) hx hb dL_law_1088 (by decide +kernel) ?_
  refine lv_iadd hx hb dL_law_1089 ?_
  rw [nI_add]
  refine l_sld hx hb hX hbl hbA hLL hW (by omega) dL_law_1090 ?_
  refine lv_aload_n hx hb dL_law_1091 rfl (lv_at hl 3 rfl) ?_
  refine xsw_i (As := [.ref (xa 0 0), .int (xs (i + 1)), .ref (xa 30 0)]) (rest := []) ⟨hx, hb, hml, hown, hts⟩ (c_L_heirOf l hst0 D sa xa (mG (G30 D f) D xa σ ρ la) σ τ hg hL hT f G30_O (xs (i + 1))) (vx_cwSW (hh := [(0, 9, 12, 13)]) 3 hts gL_law_L_heirOf rfl rfl rfl (by decide +kernel) ⟨Nat.le_of_ble_eq_true rfl, Nat.le_of_ble_eq_true rfl⟩) hW rfl rfl hl.1 (Nat.le_of_ble_eq_true rfl) dL_law_1092 ⟨by show cells + 1 ≤ 601024; omega, by show slots + 6 ≤ 7293034; omega⟩ (fun rk xb G9 H locs hp hW => ?_)
  obtain ⟨k, f1, hgk, rfl, xa1, τ1, hag, hu, hL1, hT1, hans⟩ := hp
  have hu2 : G9 = _ := congrArg Prod.snd hu
  subst hu2
  have hu1 : xa1 = xb := (congrArg Prod.fst hu).symm
  subst hu1
  have hW : xW D sa A s xa1 (mG (xGs (G30 D f1) D xa1 σ τ1) D xa1 σ ρ la) H locs := hW.eqG (lG_c (f := f) hag)
  refine W.widen (k := cells + 6) (n := slots + 39) (by omega) (by omega) ?_
  have hl : lv_has ls 7 [(0, .ref (b)), (1, .ref (xa1 0 0)), (2, .ref (xa1 20 0)), (3, .ref (xa1 30 0)), (4, .int (nI (i)))] := by rw [hag 0 0 (by omega), hag 20 0 (by omega), hag 30 0 (by omega)]; exact hl
  have hk4 := hgk.lt
  have hg1 : Gd σ := hg
  refine lv_istore (lv' := [(5, .int (nI (k))), (0, .ref (b)), (1, .ref (xa1 0 0)), (2, .ref (xa1 20 0)), (3, .ref (xa1 30 0)), (4, .int (nI (i)))]) hx hb dL_law_1095 hl (by decide) rfl (fun ls hl => ?_)
  have hl : lv_has ls 7 [(0, .ref (b)), (1, .ref (xa1 0 0)), (2, .ref (xa1 20 0)), (3, .ref (xa1 30 0)), (4, .int (nI (i))), (5, .int (nI (k)))] := lv_sub hl [1, 2, 3, 4, 5, 0] rfl
  refine lv_aload_n hx hb dL_law_1097 rfl (lv_at hl 2 rfl) ?_
  refine lv_aload_n hx hb dL_law_1098 rfl (lv_at hl 0 rfl) ?_
  refine lv_iload hx hb dL_law_1099 (lv_at hl 4 rfl) ?_
  refine lv_iconst (v := nI (1)) hx hb dL_law_1101 (by decide +kernel) ?_
  refine lv_iadd hx hb dL_law_1102 ?_
  rw [nI_add]
  refine l_sld hx hb hX hbl hbA hLL hW (by omega) dL_law_1103 ?_
  refine xv_i (k := 20) (i := 0) (As := [.int (xs (i + 1))]) (rest := []) ⟨hx, hb, hml, hown, hts⟩ (c_X5_heirOf l D sa xa1 (xGs (G30 D f1) D xa1 σ τ1) σ ρ la hg (xs (i + 1))) (cwV 1 hts gL_law_X5_heirOf rfl rfl rfl (by decide +kernel) ⟨Nat.le_of_ble_eq_true rfl, Nat.le_of_ble_eq_true rfl⟩) hW (mG_obj _ _ _ _ _ _) rfl rfl rfl rfl hl.1 (Nat.le_of_ble_eq_true rfl) dL_law_1104 ⟨by show cells + 6 + 0 ≤ 601024; omega, by show slots + 39 + 0 ≤ 7293034; omega⟩ (fun r2 xb G9 H locs hp hW => ?_)
  obtain ⟨k2, hgk2, hu, hr2⟩ := hp
  cases hu
  have hkk := gk.uniq hgk hgk2
  subst hkk
  refine lv_istore (lv' := [(6, .int (r2)), (0, .ref (b)), (1, .ref (xa1 0 0)), (2, .ref (xa1 20 0)), (3, .ref (xa1 30 0)), (4, .int (nI (i))), (5, .int (nI (k)))]) hx hb dL_law_1107 hl (by decide) rfl (fun ls hl => ?_)
  have hl : lv_has ls 7 [(0, .ref (b)), (1, .ref (xa1 0 0)), (2, .ref (xa1 20 0)), (3, .ref (xa1 30 0)), (4, .int (nI (i))), (5, .int (nI (k))), (6, .int (r2))] := lv_sub hl [1, 2, 3, 4, 5, 6, 0] rfl
  refine lv_aload_n hx hb dL_law_1109 rfl (lv_at hl 2 rfl) ?_
  refine xv_i (k := 20) (i := 0) (As := []) (rest := []) ⟨hx, hb, hml, hown, hts⟩ (c_X5_thrown l D sa xa1 (xGs (G30 D f1) D xa1 σ τ1) σ ρ k hg1) (cwV 0 hts gL_law_X5_thrown rfl rfl rfl (by decide +kernel) ⟨Nat.le_of_ble_eq_true rfl, Nat.le_of_ble_eq_true rfl⟩) hW (mG_obj _ _ _ _ _ _) rfl rfl rfl rfl hl.1 (Nat.le_of_ble_eq_true rfl) dL_law_1110 ⟨by show cells + 6 + 0 + 0 ≤ 601024; omega, by show slots + 39 + 0 + 0 ≤ 7293034; omega⟩ (fun r3 xb G9 H locs hp hW => ?_)
  obtain ⟨hu, hr3⟩ := hp
  cases hu
  subst hr3
  refine lv_iload hx hb dL_law_1113 (lv_at hl 5 rfl) ?_
  refine lv_icmp_eq (tgt := 1120) hx hb dL_law_1115 (by decide) (fun c_1115 => ?_) (fun c_1115 => ?_)
  · -- eq taken
    have c_1115 := (x_eqN (a := k) (b := k) (by omega) (by omega)).mp c_1115
    refine lv_iload hx hb dL_law_1120 (lv_at hl 5 rfl) ?_
    refine lv_if_ne (tgt := 1137) hx hb dL_law_1122 (by decide) (fun c_1122 => ?_) (fun c_1122 => ?_)
    · -- ne taken
      have c_1122 : ¬ (k = 0) := fun h_ => c_1122 ((x_eqZ (a := k) (by omega)).mpr h_)
      refine lv_goto (tgt := 1631) hx hb dL_law_1137 (by decide) ?_
      exact kk xa1 σ τ1 ρ k f1 _ _ _ (hW.eqG lG_m) hg1 hL1 hT1 (lv_sub hl [0, 1, 2, 3, 4] rfl)
    · -- ne not
      have c_1122 := (x_eqZ (a := k) (by omega)).mp c_1122
      refine lv_aload_n hx hb dL_law_1125 rfl (lv_at hl 3 rfl) ?_
      refine lv_iconst (v := nI (0)) hx hb dL_law_1126 (by decide +kernel) ?_
      refine x_lld hx hb hW 30 0 (n := 1) (f := f1) ((if_neg (by omega)).trans ((if_neg (by omega)).trans (xup_self _ _ _ _))) 0 rfl (by omega) (by omega) rfl dL_law_1127 ?_
      refine lv_iload hx hb dL_law_1128 (lv_at hl 6 rfl) ?_
      refine lv_i2l (v := Int32.toInt64 (r2)) hx hb dL_law_1130 rfl ?_
      refine W.lcmp hx hb dL_law_1131 ?_
      obtain ⟨a_, ha1, ha2⟩ := hans c_1122
      have hb2 := hr2 c_1122
      have hab : a_ = r2 := ha2.trans hb2.symm
      have heq : f1 0 = Int32.toInt64 (r2) := by rw [ha1, hab]
      rw [heq, l_cmp]
      refine lv_if_eq (tgt := 1137) hx hb dL_law_1132 (by decide) (fun c_1132 => ?_) (fun c_1132 => ?_)
      · -- eq taken
        refine lv_goto (tgt := 1631) hx hb dL_law_1137 (by decide) ?_
        exact kk xa1 σ τ1 ρ k f1 _ _ _ (hW.eqG lG_m) hg1 hL1 hT1 (lv_sub hl [0, 1, 2, 3, 4] rfl)
      · -- eq not
        exact absurd rfl c_1132
  · -- eq not
    have c_1115 : ¬ (k = k) := fun h_ => c_1115 ((x_eqN (a := k) (b := k) (by omega) (by omega)).mpr h_)
    exact absurd rfl c_1115

set_option maxHeartbeats 4000000 in
set_option maxRecDepth 100000 in
theorem op_likeness (l : Launch) (hst0 : l.stackTraces = false) {p : Program} {e : Env} {s : State} {m : MethodId} {args : Array Value} {below : List Frame} {meth : Method} {c : Code} {H : Heap} {locs : List Loc} {cells slots : Nat} {Q : State → Prop} {ls : Array Slot} {D : xD} {sa : Nat → Nat} {A : Nat → Prop} {xa : xA} {σ : Sg} {τ : Tg} {ρ : Nat → Nat} {la : Nat} {f : Nat → Int64} {b L i : Nat} {xs : Nat → Int32} (hx : p.tables.exec = Jvm.exec) (hb : c.code = cL_law) (hml : c.maxLocals = 7) (hown : s.vm.findClass RL = some m.cls) (hts : ∀ w ∈ wsL_law, w.before args s = true) (hX : va_X b L xs s s.heap) (hbl : b < s.heap.size) (hbA : ¬ A b) (hLL : L ≤ 3072) (hi : i + 6 ≤ L) (hc6 : cells + 6 ≤ 601024) (hs39 : slots + 39 ≤ 7293034) (hW : xW D sa A s xa (lG D xa σ τ ρ la f) H locs) (hg : Gd σ) (hL : LL σ τ) (hT : TE σ τ) (hl : lv_has ls 7 [(0, .ref (b)), (1, .ref (xa 0 0)), (2, .ref (xa 20 0)), (3, .ref (xa 30 0)), (4, .int (nI (i)))])
    (kk : ∀ (xa1 : xA) (σ1 : Sg) (τ1 : Tg) (ρ1 : Nat → Nat) (la1 : Nat) (f1 : Nat → Int64) (H1 : Heap) (locs1 : List Loc) (ls1 : Array Slot), xW D sa A s xa1 (lG D xa1 σ1 τ1 ρ1 la1 f1) H1 locs1 → Gd σ1 → LL σ1 τ1 → TE σ1 τ1 → lv_has ls1 7 [(0, .ref (b)), (1, .ref (xa1 0 0)), (2, .ref (xa1 20 0)), (3, .ref (xa1 30 0)), (4, .int (nI (i)))] → W p l e room_1 s m args below meth c H1 locs1 (cells + 6) (slots + 39) Q (F0 m 1631 ls1 [])) : W p l e room_1 s m args below meth c H locs cells slots Q (F0 m 1140 ls []) := by
  refine lv_aload_n hx hb dL_law_1140 rfl (lv_at hl 1 rfl) ?_
  refine lv_aload_n hx hb dL_law_1141 rfl (lv_at hl 0 rfl) ?_
  refine lv_iload hx hb dL_law_1142 (lv_at hl 4 rfl) ?_
  refine lv_iconst (v := nI (1)) hx hb dL_law_1144 (by decide +kernel) ?_
  refine lv_iadd hx hb dL_law_1145 ?_
  rw [nI_add]
  refine l_sld hx hb hX hbl hbA hLL hW (by omega) dL_law_1146 ?_
  refine lv_aload_n hx hb dL_law_1147 rfl (lv_at hl 0 rfl) ?_
  refine lv_iload hx hb dL_law_1148 (lv_at hl 4 rfl) ?_
  refine lv_iconst (v := nI (2)) hx hb dL_law_1150 (by decide +kernel) ?_
  refine lv_iadd hx hb dL_law_1151 ?_
  rw [nI_add]
  refine l_sld hx hb hX hbl hbA hLL hW (by omega) dL_law_1152 ?_
  refine lv_aload_n hx hb dL_law_1153 rfl (lv_at hl 3 rfl) ?_
  refine xsw_i (As := [.ref (xa 0 0), .int (xs (i + 1)), .int (xs (i + 2)), .ref (xa 30 0)]) (rest := []) ⟨hx, hb, hml, hown, hts⟩ (c_L_likeness l hst0 D sa xa (mG (G30 D f) D xa σ ρ la) σ τ hg hL hT f G30_O (xs (i + 1)) (xs (i + 2))) (vx_cwSW (hh := [(0, 10, 13, 13)]) 4 hts gL_law_L_likeness rfl rfl rfl (by decide +kernel) ⟨Nat.le_of_ble_eq_true rfl, Nat.le_of_ble_eq_true rfl⟩) hW rfl rfl hl.1 (Nat.le_of_ble_eq_true rfl) dL_law_1154 ⟨by show cells + 2 ≤ 601024; omega, by show slots + 12 ≤ 7293034; omega⟩ (fun rk xb G9 H locs hp hW => ?_)
  obtain ⟨k, f1, hgk, rfl, xa1, τ1, hag, hu, hL1, hT1, hans⟩ := hp
  have hu2 : G9 = _ := congrArg Prod.snd hu
  subst hu2
  have hu1 : xa1 = xb := (congrArg Prod.fst hu).symm
  subst hu1
  have hW : xW D sa A s xa1 (mG (xGs (G30 D f1) D xa1 σ τ1) D xa1 σ ρ la) H locs := hW.eqG (lG_c (f := f) hag)
  refine W.widen (k := cells + 6) (n := slots + 39) (by omega) (by omega) ?_
  have hl : lv_has ls 7 [(0, .ref (b)), (1, .ref (xa1 0 0)), (2, .ref (xa1 20 0)), (3, .ref (xa1 30 0)), (4, .int (nI (i)))] := by rw [hag 0 0 (by omega), hag 20 0 (by omega), hag 30 0 (by omega)]; exact hl
  have hk4 := hgk.lt
  have hg1 : Gd σ := hg
  refine lv_istore (lv' := [(5, .int (nI (k))), (0, .ref (b)), (1, .ref (xa1 0 0)), (2, .ref (xa1 20 0)), (3, .ref (xa1 30 0)), (4, .int (nI (i)))]) hx hb dL_law_1157 hl (by decide) rfl (fun ls hl => ?_)
  have hl : lv_has ls 7 [(0, .ref (b)), (1, .ref (xa1 0 0)), (2, .ref (xa1 20 0)), (3, .ref (xa1 30 0)), (4, .int (nI (i))), (5, .int (nI (k)))] := lv_sub hl [1, 2, 3, 4, 5, 0] rfl
  refine lv_aload_n hx hb dL_law_1159 rfl (lv_at hl 2 rfl) ?_
  refine lv_aload_n hx hb dL_law_1160 rfl (lv_at hl 0 rfl) ?_
  refine lv_iload hx hb dL_law_1161 (lv_at hl 4 rfl) ?_
  refine lv_iconst (v := nI (1)) hx hb dL_law_1163 (by decide +kernel) ?_
  refine lv_iadd hx hb dL_law_1164 ?_
  rw [nI_add]
  refine l_sld hx hb hX hbl hbA hLL hW (by omega) dL_law_1165 ?_
  refine lv_aload_n hx hb dL_law_1166 rfl (lv_at hl 0 rfl) ?_
  refine lv_iload hx hb dL_law_1167 (lv_at hl 4 rfl) ?_
  refine lv_iconst (v := nI (2)) hx hb dL_law_1169 (by decide +kernel) ?_
  refine lv_iadd hx hb dL_law_1170 ?_
  rw [nI_add]
  refine l_sld hx hb hX hbl hbA hLL hW (by omega) dL_law_1171 ?_
  refine xv_i (k := 20) (i := 0) (As := [.int (xs (i + 1)), .int (xs (i + 2))]) (rest := []) ⟨hx, hb, hml, hown, hts⟩ (c_X5_likeness l D sa xa1 (xGs (G30 D f1) D xa1 σ τ1) σ ρ la hg (xs (i + 1)) (xs (i + 2))) (cwV 2 hts gL_law_X5_likeness rfl rfl rfl (by decide +kernel) ⟨Nat.le_of_ble_eq_true rfl, Nat.le_of_ble_eq_true rfl⟩) hW (mG_obj _ _ _ _ _ _) rfl rfl rfl rfl hl.1 (Nat.le_of_ble_eq_true rfl) dL_law_1172 ⟨by show cells + 6 + 0 ≤ 601024; omega, by show slots + 39 + 0 ≤ 7293034; omega⟩ (fun r2 xb G9 H locs hp hW => ?_)
  obtain ⟨k2, hgk2, hu, hr2⟩ := hp
  cases hu
  have hkk := gk.uniq hgk hgk2
  subst hkk
  refine lv_istore (lv' := [(6, .int (r2)), (0, .ref (b)), (1, .ref (xa1 0 0)), (2, .ref (xa1 20 0)), (3, .ref (xa1 30 0)), (4, .int (nI (i))), (5, .int (nI (k)))]) hx hb dL_law_1175 hl (by decide) rfl (fun ls hl => ?_)
  have hl : lv_has ls 7 [(0, .ref (b)), (1, .ref (xa1 0 0)), (2, .ref (xa1 20 0)), (3, .ref (xa1 30 0)), (4, .int (nI (i))), (5, .int (nI (k))), (6, .int (r2))] := lv_sub hl [1, 2, 3, 4, 5, 6, 0] rfl
  refine lv_aload_n hx hb dL_law_1177 rfl (lv_at hl 2 rfl) ?_
  refine xv_i (k := 20) (i := 0) (As := []) (rest := []) ⟨hx, hb, hml, hown, hts⟩ (c_X5_thrown l D sa xa1 (xGs (G30 D f1) D xa1 σ τ1) σ ρ k hg1) (cwV 0 hts gL_law_X5_thrown rfl rfl rfl (by decide +kernel) ⟨Nat.le_of_ble_eq_true rfl, Nat.le_of_ble_eq_true rfl⟩) hW (mG_obj _ _ _ _ _ _) rfl rfl rfl rfl hl.1 (Nat.le_of_ble_eq_true rfl) dL_law_1178 ⟨by show cells + 6 + 0 + 0 ≤ 601024; omega, by show slots + 39 + 0 + 0 ≤ 7293034; omega⟩ (fun r3 xb G9 H locs hp hW => ?_)
  obtain ⟨hu, hr3⟩ := hp
  cases hu
  subst hr3
  refine lv_iload hx hb dL_law_1181 (lv_at hl 5 rfl) ?_
  refine lv_icmp_eq (tgt := 1188) hx hb dL_law_1183 (by decide) (fun c_1183 => ?_) (fun c_1183 => ?_)
  · -- eq taken
    have c_1183 := (x_eqN (a := k) (b := k) (by omega) (by omega)).mp c_1183
    refine lv_iload hx hb dL_law_1188 (lv_at hl 5 rfl) ?_
    refine lv_if_ne (tgt := 1205) hx hb dL_law_1190 (by decide) (fun c_1190 => ?_) (fun c_1190 => ?_)
    · -- ne taken
      have c_1190 : ¬ (k = 0) := fun h_ => c_1190 ((x_eqZ (a := k) (by omega)).mpr h_)
      refine lv_goto (tgt := 1631) hx hb dL_law_1205 (by decide) ?_
      exact kk xa1 σ τ1 ρ k f1 _ _ _ (hW.eqG lG_m) hg1 hL1 hT1 (lv_sub hl [0, 1, 2, 3, 4] rfl)
    · -- ne not
      have c_1190 := (x_eqZ (a := k) (by omega)).mp c_1190
      refine lv_aload_n hx hb dL_law_1193 rfl (lv_at hl 3 rfl) ?_
      refine lv_iconst (v := nI (0)) hx hb dL_law_1194 (by decide +kernel) ?_
      refine x_lld hx hb hW 30 0 (n := 1) (f := f1) ((if_neg (by omega)).trans ((if_neg (by omega)).trans (xup_self _ _ _ _))) 0 rfl (by omega) (by omega) rfl dL_law_1195 ?_
      refine lv_iload hx hb dL_law_1196 (lv_at hl 6 rfl) ?_
      refine lv_i2l (v := Int32.toInt64 (r2)) hx hb dL_law_1198 rfl ?_
      refine W.lcmp hx hb dL_law_1199 ?_
      obtain ⟨a_, ha1, ha2⟩ := hans c_1190
      have hb2 := hr2 c_1190
      have hab : a_ = r2 := Int32.toInt_inj.mp (ha2.trans hb2.symm)
      have heq : f1 0 = Int32.toInt64 (r2) := by rw [ha1, hab]
      rw [heq, l_cmp]
      refine lv_if_eq (tgt := 1205) hx hb dL_law_1200 (by decide) (fun c_1200 => ?_) (fun c_1200 => ?_)
      · -- eq taken
        refine lv_goto (tgt := 1631) hx hb dL_law_1205 (by decide) ?_
        exact kk xa1 σ τ1 ρ k f1 _ _ _ (hW.eqG lG_m) hg1 hL1 hT1 (lv_sub hl [0, 1, 2, 3, 4] rfl)
      · -- eq not
        exact absurd rfl c_1200
  · -- eq not
    have c_1183 : ¬ (k = k) := fun h_ => c_1183 ((x_eqN (a := k) (b := k) (by omega) (by omega)).mpr h_)
    exact absurd rfl c_1183

set_option maxHeartbeats 4000000 in
set_option maxRecDepth 100000 in
theorem op_likest (l : Launch) (hst0 : l.stackTraces = false) {p : Program} {e : Env} {s : State} {m : MethodId} {args : Array Value} {below : List Frame} {meth : Method} {c : Code} {H : Heap} {locs : List Loc} {cells slots : Nat} {Q : State → Prop} {ls : Array Slot} {D : xD} {sa : Nat → Nat} {A : Nat → Prop} {xa : xA} {σ : Sg} {τ : Tg} {ρ : Nat → Nat} {la : Nat} {f : Nat → Int64} {b L i : Nat} {xs : Nat → Int32} (hx : p.tables.exec = Jvm.exec) (hb : c.code = cL_law) (hml : c.maxLocals = 7) (hown : s.vm.findClass RL = some m.cls) (hts : ∀ w ∈ wsL_law, w.before args s = true) (hX : va_X b L xs s s.heap) (hbl : b < s.heap.size) (hbA : ¬ A b) (hLL : L ≤ 3072) (hi : i + 6 ≤ L) (hc6 : cells + 6 ≤ 601024) (hs39 : slots + 39 ≤ 7293034) (hW : xW D sa A s xa (lG D xa σ τ ρ la f) H locs) (hg : Gd σ) (hL : LL σ τ) (hT : TE σ τ) (hl : lv_has ls 7 [(0, .ref (b)), (1, .ref (xa 0 0)), (2, .ref (xa 20 0)), (3, .ref (xa 30 0)), (4, .int (nI (i)))])
    (kk : ∀ (xa1 : xA) (σ1 : Sg) (τ1 : Tg) (ρ1 : Nat → Nat) (la1 : Nat) (f1 : Nat → Int64) (H1 : Heap) (locs1 : List Loc) (ls1 : Array Slot), xW D sa A s xa1 (lG D xa1 σ1 τ1 ρ1 la1 f1) H1 locs1 → Gd σ1 → LL σ1 τ1 → TE σ1 τ1 → lv_has ls1 7 [(0, .ref (b)), (1, .ref (xa1 0 0)), (2, .ref (xa1 20 0)), (3, .ref (xa1 30 0)), (4, .int (nI (i)))] → W p l e room_1 s m args below meth c H1 locs1 (cells + 6) (slots + 39) Q (F0 m 1631 ls1 [])) : W p l e room_1 s m args below meth c H locs cells slots Q (F0 m 1208 ls []) := by
  refine lv_aload_n hx hb dL_law_1208 rfl (lv_at hl 1 rfl) ?_
  refine lv_aload_n hx hb dL_law_1209 rfl (lv_at hl 0 rfl) ?_
  refine lv_iload hx hb dL_law_1210 (lv_at hl 4 rfl) ?_
  refine lv_iconst (v := nI (1)) hx hb dL_law_1212 (by decide +kernel) ?_
  refine lv_iadd hx hb dL_law_1213 ?_
  rw [nI_add]
  refine l_sld hx hb hX hbl hbA hLL hW (by omega) dL_law_1214 ?_
  refine lv_aload_n hx hb dL_law_1215 rfl (lv_at hl 3 rfl) ?_
  refine xsw_i (As := [.ref (xa 0 0), .int (xs (i + 1)), .ref (xa 30 0)]) (rest := []) ⟨hx, hb, hml, hown, hts⟩ (c_L_likest l hst0 D sa xa (mG (G30 D f) D xa σ ρ la) σ τ hg hL hT f G30_O (xs (i + 1))) (vx_cwSW (hh := [(0, 9, 12, 13)]) 3 hts gL_law_L_likest rfl rfl rfl (by decide +kernel) ⟨Nat.le_of_ble_eq_true rfl, Nat.le_of_ble_eq_true rfl⟩) hW rfl rfl hl.1 (Nat.le_of_ble_eq_true rfl) dL_law_1216 ⟨by show cells + 1 ≤ 601024; omega, by show slots + 6 ≤ 7293034; omega⟩ (fun rk xb G9 H locs hp hW => ?_)
  obtain ⟨k, f1, hgk, rfl, xa1, τ1, hag, hu, hL1, hT1, hans⟩ := hp
  have hu2 : G9 = _ := congrArg Prod.snd hu
  subst hu2
  have hu1 : xa1 = xb := (congrArg Prod.fst hu).symm
  subst hu1
  have hW : xW D sa A s xa1 (mG (xGs (G30 D f1) D xa1 σ τ1) D xa1 σ ρ la) H locs := hW.eqG (lG_c (f := f) hag)
  refine W.widen (k := cells + 6) (n := slots + 39) (by omega) (by omega) ?_
  have hl : lv_has ls 7 [(0, .ref (b)), (1, .ref (xa1 0 0)), (2, .ref (xa1 20 0)), (3, .ref (xa1 30 0)), (4, .int (nI (i)))] := by rw [hag 0 0 (by omega), hag 20 0 (by omega), hag 30 0 (by omega)]; exact hl
  have hk4 := hgk.lt
  have hg1 : Gd σ := hg
  refine lv_istore (lv' := [(5, .int (nI (k))), (0, .ref (b)), (1, .ref (xa1 0 0)), (2, .ref (xa1 20 0)), (3, .ref (xa1 30 0)), (4, .int (nI (i)))]) hx hb dL_law_1219 hl (by decide) rfl (fun ls hl => ?_)
  have hl : lv_has ls 7 [(0, .ref (b)), (1, .ref (xa1 0 0)), (2, .ref (xa1 20 0)), (3, .ref (xa1 30 0)), (4, .int (nI (i))), (5, .int (nI (k)))] := lv_sub hl [1, 2, 3, 4, 5, 0] rfl
  refine lv_aload_n hx hb dL_law_1221 rfl (lv_at hl 2 rfl) ?_
  refine lv_aload_n hx hb dL_law_1222 rfl (lv_at hl 0 rfl) ?_
  refine lv_iload hx hb dL_law_1223 (lv_at hl 4 rfl) ?_
  refine lv_iconst (v := nI (1)) hx hb dL_law_1225 (by decide +kernel) ?_
  refine lv_iadd hx hb dL_law_1226 ?_
  rw [nI_add]
  refine l_sld hx hb hX hbl hbA hLL hW (by omega) dL_law_1227 ?_
  refine xv_i (k := 20) (i := 0) (As := [.int (xs (i + 1))]) (rest := []) ⟨hx, hb, hml, hown, hts⟩ (c_X5_likest l D sa xa1 (xGs (G30 D f1) D xa1 σ τ1) σ ρ la hg (xs (i + 1))) (cwV 1 hts gL_law_X5_likest rfl rfl rfl (by decide +kernel) ⟨Nat.le_of_ble_eq_true rfl, Nat.le_of_ble_eq_true rfl⟩) hW (mG_obj _ _ _ _ _ _) rfl rfl rfl rfl hl.1 (Nat.le_of_ble_eq_true rfl) dL_law_1228 ⟨by show cells + 6 + 0 ≤ 601024; omega, by show slots + 39 + 0 ≤ 7293034; omega⟩ (fun r2 xb G9 H locs hp hW => ?_)
  obtain ⟨k2, hgk2, hu, hr2⟩ := hp
  cases hu
  have hkk := gk.uniq hgk hgk2
  subst hkk
  refine lv_istore (lv' := [(6, .int (r2)), (0, .ref (b)), (1, .ref (xa1 0 0)), (2, .ref (xa1 20 0)), (3, .ref (xa1 30 0)), (4, .int (nI (i))), (5, .int (nI (k)))]) hx hb dL_law_1231 hl (by decide) rfl (fun ls hl => ?_)
  have hl : lv_has ls 7 [(0, .ref (b)), (1, .ref (xa1 0 0)), (2, .ref (xa1 20 0)), (3, .ref (xa1 30 0)), (4, .int (nI (i))), (5, .int (nI (k))), (6, .int (r2))] := lv_sub hl [1, 2, 3, 4, 5, 6, 0] rfl
  refine lv_aload_n hx hb dL_law_1233 rfl (lv_at hl 2 rfl) ?_
  refine xv_i (k := 20) (i := 0) (As := []) (rest := []) ⟨hx, hb, hml, hown, hts⟩ (c_X5_thrown l D sa xa1 (xGs (G30 D f1) D xa1 σ τ1) σ ρ k hg1) (cwV 0 hts gL_law_X5_thrown rfl rfl rfl (by decide +kernel) ⟨Nat.le_of_ble_eq_true rfl, Nat.le_of_ble_eq_true rfl⟩) hW (mG_obj _ _ _ _ _ _) rfl rfl rfl rfl hl.1 (Nat.le_of_ble_eq_true rfl) dL_law_1234 ⟨by show cells + 6 + 0 + 0 ≤ 601024; omega, by show slots + 39 + 0 + 0 ≤ 7293034; omega⟩ (fun r3 xb G9 H locs hp hW => ?_)
  obtain ⟨hu, hr3⟩ := hp
  cases hu
  subst hr3
  refine lv_iload hx hb dL_law_1237 (lv_at hl 5 rfl) ?_
  refine lv_icmp_eq (tgt := 1244) hx hb dL_law_1239 (by decide) (fun c_1239 => ?_) (fun c_1239 => ?_)
  · -- eq taken
    have c_1239 := (x_eqN (a := k) (b := k) (by omega) (by omega)).mp c_1239
    refine lv_iload hx hb dL_law_1244 (lv_at hl 5 rfl) ?_
    refine lv_if_ne (tgt := 1261) hx hb dL_law_1246 (by decide) (fun c_1246 => ?_) (fun c_1246 => ?_)
    · -- ne taken
      have c_1246 : ¬ (k = 0) := fun h_ => c_1246 ((x_eqZ (a := k) (by omega)).mpr h_)
      refine lv_goto (tgt := 1631) hx hb dL_law_1261 (by decide) ?_
      exact kk xa1 σ τ1 ρ k f1 _ _ _ (hW.eqG lG_m) hg1 hL1 hT1 (lv_sub hl [0, 1, 2, 3, 4] rfl)
    · -- ne not
      have c_1246 := (x_eqZ (a := k) (by omega)).mp c_1246
      refine lv_aload_n hx hb dL_law_1249 rfl (lv_at hl 3 rfl) ?_
      refine lv_iconst (v := nI (0)) hx hb dL_law_1250 (by decide +kernel) ?_
      refine x_lld hx hb hW 30 0 (n := 1) (f := f1) ((if_neg (by omega)).trans ((if_neg (by omega)).trans (xup_self _ _ _ _))) 0 rfl (by omega) (by omega) rfl dL_law_1251 ?_
      refine lv_iload hx hb dL_law_1252 (lv_at hl 6 rfl) ?_
      refine lv_i2l (v := Int32.toInt64 (r2)) hx hb dL_law_1254 rfl ?_
      refine W.lcmp hx hb dL_law_1255 ?_
      obtain ⟨a_, ha1, ha2⟩ := hans c_1246
      have hb2 := hr2 c_1246
      have hab : a_ = r2 := ha2.trans hb2.symm
      have heq : f1 0 = Int32.toInt64 (r2) := by rw [ha1, hab]
      rw [heq, l_cmp]
      refine lv_if_eq (tgt := 1261) hx hb dL_law_1256 (by decide) (fun c_1256 => ?_) (fun c_1256 => ?_)
      · -- eq taken
        refine lv_goto (tgt := 1631) hx hb dL_law_1261 (by decide) ?_
        exact kk xa1 σ τ1 ρ k f1 _ _ _ (hW.eqG lG_m) hg1 hL1 hT1 (lv_sub hl [0, 1, 2, 3, 4] rfl)
      · -- eq not
        exact absurd rfl c_1256
  · -- eq not
    have c_1239 : ¬ (k = k) := fun h_ => c_1239 ((x_eqN (a := k) (b := k) (by omega) (by omega)).mpr h_)
    exact absurd rfl c_1239

set_option maxHeartbeats 4000000 in
set_option maxRecDepth 100000 in
theorem op_stationAt (l : Launch) (hst0 : l.stackTraces = false) {p : Program} {e : Env} {s : State} {m : MethodId} {args : Array Value} {below : List Frame} {meth : Method} {c : Code} {H : Heap} {locs : List Loc} {cells slots : Nat} {Q : State → Prop} {ls : Array Slot} {D : xD} {sa : Nat → Nat} {A : Nat → Prop} {xa : xA} {σ : Sg} {τ : Tg} {ρ : Nat → Nat} {la : Nat} {f : Nat → Int64} {b L i : Nat} {xs : Nat → Int32} (hx : p.tables.exec = Jvm.exec) (hb : c.code = cL_law) (hml : c.maxLocals = 7) (hown : s.vm.findClass RL = some m.cls) (hts : ∀ w ∈ wsL_law, w.before args s = true) (hX : va_X b L xs s s.heap) (hbl : b < s.heap.size) (hbA : ¬ A b) (hLL : L ≤ 3072) (hi : i + 6 ≤ L) (hc6 : cells + 6 ≤ 601024) (hs39 : slots + 39 ≤ 7293034) (hW : xW D sa A s xa (lG D xa σ τ ρ la f) H locs) (hg : Gd σ) (hL : LL σ τ) (hT : TE σ τ) (hl : lv_has ls 7 [(0, .ref (b)), (1, .ref (xa 0 0)), (2, .ref (xa 20 0)), (3, .ref (xa 30 0)), (4, .int (nI (i)))])
    (kk : ∀ (xa1 : xA) (σ1 : Sg) (τ1 : Tg) (ρ1 : Nat → Nat) (la1 : Nat) (f1 : Nat → Int64) (H1 : Heap) (locs1 : List Loc) (ls1 : Array Slot), xW D sa A s xa1 (lG D xa1 σ1 τ1 ρ1 la1 f1) H1 locs1 → Gd σ1 → LL σ1 τ1 → TE σ1 τ1 → lv_has ls1 7 [(0, .ref (b)), (1, .ref (xa1 0 0)), (2, .ref (xa1 20 0)), (3, .ref (xa1 30 0)), (4, .int (nI (i)))] → W p l e room_1 s m args below meth c H1 locs1 (cells + 6) (slots + 39) Q (F0 m 1631 ls1 [])) : W p l e room_1 s m args below meth c H locs cells slots Q (F0 m 1264 ls []) := by
  refine lv_aload_n hx hb dL_law_1264 rfl (lv_at hl 1 rfl) ?_
  refine lv_aload_n hx hb dL_law_1265 rfl (lv_at hl 0 rfl) ?_
  refine lv_iload hx hb dL_law_1266 (lv_at hl 4 rfl) ?_
  refine lv_iconst (v := nI (1)) hx hb dL_law_1268 (by decide +kernel) ?_
  refine lv_iadd hx hb dL_law_1269 ?_
  rw [nI_add]
  refine l_sld hx hb hX hbl hbA hLL hW (by omega) dL_law_1270 ?_
  refine lv_aload_n hx hb dL_law_1271 rfl (lv_at hl 0 rfl) ?_
  refine lv_iload hx hb dL_law_1272 (lv_at hl 4 rfl) ?_
  refine lv_iconst (v := nI (2)) hx hb dL_law_1274 (by decide +kernel) ?_
  refine lv_iadd hx hb dL_law_1275 ?_
  rw [nI_add]
  refine l_sld hx hb hX hbl hbA hLL hW (by omega) dL_law_1276 ?_
  refine lv_aload_n hx hb dL_law_1277 rfl (lv_at hl 3 rfl) ?_
  refine xsw_i (As := [.ref (xa 0 0), .int (xs (i + 1)), .int (xs (i + 2)), .ref (xa 30 0)]) (rest := []) ⟨hx, hb, hml, hown, hts⟩ (c_L_stationAt l hst0 D sa xa (mG (G30 D f) D xa σ ρ la) σ τ hg hL hT f G30_O (xs (i + 1)) (xs (i + 2))) (vx_cwSW (hh := [(0, 10, 13, 13)]) 4 hts gL_law_L_stationAt rfl rfl rfl (by decide +kernel) ⟨Nat.le_of_ble_eq_true rfl, Nat.le_of_ble_eq_true rfl⟩) hW rfl rfl hl.1 (Nat.le_of_ble_eq_true rfl) dL_law_1278 ⟨by show cells + 2 ≤ 601024; omega, by show slots + 12 ≤ 7293034; omega⟩ (fun rk xb G9 H locs hp hW => ?_)
  obtain ⟨k, f1, hgk, rfl, xa1, τ1, hag, hu, hL1, hT1, hans⟩ := hp
  have hu2 : G9 = _ := congrArg Prod.snd hu
  subst hu2
  have hu1 : xa1 = xb := (congrArg Prod.fst hu).symm
  subst hu1
  have hW : xW D sa A s xa1 (mG (xGs (G30 D f1) D xa1 σ τ1) D xa1 σ ρ la) H locs := hW.eqG (lG_c (f := f) hag)
  refine W.widen (k := cells + 6) (n := slots + 39) (by omega) (by omega) ?_
  have hl : lv_has ls 7 [(0, .ref (b)), (1, .ref (xa1 0 0)), (2, .ref (xa1 20 0)), (3, .ref (xa1 30 0)), (4, .int (nI (i)))] := by rw [hag 0 0 (by omega), hag 20 0 (by omega), hag 30 0 (by omega)]; exact hl
  have hk4 := hgk.lt
  have hg1 : Gd σ := hg
  refine lv_istore (lv' := [(5, .int (nI (k))), (0, .ref (b)), (1, .ref (xa1 0 0)), (2, .ref (xa1 20 0)), (3, .ref (xa1 30 0)), (4, .int (nI (i)))]) hx hb dL_law_1281 hl (by decide) rfl (fun ls hl => ?_)
  have hl : lv_has ls 7 [(0, .ref (b)), (1, .ref (xa1 0 0)), (2, .ref (xa1 20 0)), (3, .ref (xa1 30 0)), (4, .int (nI (i))), (5, .int (nI (k)))] := lv_sub hl [1, 2, 3, 4, 5, 0] rfl
  refine lv_aload_n hx hb dL_law_1283 rfl (lv_at hl 2 rfl) ?_
  refine lv_aload_n hx hb dL_law_1284 rfl (lv_at hl 0 rfl) ?_
  refine lv_iload hx hb dL_law_1285 (lv_at hl 4 rfl) ?_
  refine lv_iconst (v := nI (1)) hx hb dL_law_1287 (by decide +kernel) ?_
  refine lv_iadd hx hb dL_law_1288 ?_
  rw [nI_add]
  refine l_sld hx hb hX hbl hbA hLL hW (by omega) dL_law_1289 ?_
  refine lv_aload_n hx hb dL_law_1290 rfl (lv_at hl 0 rfl) ?_
  refine lv_iload hx hb dL_law_1291 (lv_at hl 4 rfl) ?_
  refine lv_iconst (v := nI (2)) hx hb dL_law_1293 (by decide +kernel) ?_
  refine lv_iadd hx hb dL_law_1294 ?_
  rw [nI_add]
  refine l_sld hx hb hX hbl hbA hLL hW (by omega) dL_law_1295 ?_
  refine xv_i (k := 20) (i := 0) (As := [.int (xs (i + 1)), .int (xs (i + 2))]) (rest := []) ⟨hx, hb, hml, hown, hts⟩ (c_X5_stationAt l D sa xa1 (xGs (G30 D f1) D xa1 σ τ1) σ ρ la hg (xs (i + 1)) (xs (i + 2))) (cwV 2 hts gL_law_X5_stationAt rfl rfl rfl (by decide +kernel) ⟨Nat.le_of_ble_eq_true rfl, Nat.le_of_ble_eq_true rfl⟩) hW (mG_obj _ _ _ _ _ _) rfl rfl rfl rfl hl.1 (Nat.le_of_ble_eq_true rfl) dL_law_1296 ⟨by show cells + 6 + 0 ≤ 601024; omega, by show slots + 39 + 0 ≤ 7293034; omega⟩ (fun r2 xb G9 H locs hp hW => ?_)
  obtain ⟨k2, ρ1, hgk2, hu, hr2⟩ := hp
  cases hu
  have hkk := gk.uniq hgk hgk2
  subst hkk
  refine lv_istore (lv' := [(6, .int (r2)), (0, .ref (b)), (1, .ref (xa1 0 0)), (2, .ref (xa1 20 0)), (3, .ref (xa1 30 0)), (4, .int (nI (i))), (5, .int (nI (k)))]) hx hb dL_law_1299 hl (by decide) rfl (fun ls hl => ?_)
  have hl : lv_has ls 7 [(0, .ref (b)), (1, .ref (xa1 0 0)), (2, .ref (xa1 20 0)), (3, .ref (xa1 30 0)), (4, .int (nI (i))), (5, .int (nI (k))), (6, .int (r2))] := lv_sub hl [1, 2, 3, 4, 5, 6, 0] rfl
  refine lv_aload_n hx hb dL_law_1301 rfl (lv_at hl 2 rfl) ?_
  refine xv_i (k := 20) (i := 0) (As := []) (rest := []) ⟨hx, hb, hml, hown, hts⟩ (c_X5_thrown l D sa xa1 (xGs (G30 D f1) D xa1 σ τ1) σ ρ1 k hg1) (cwV 0 hts gL_law_X5_thrown rfl rfl rfl (by decide +kernel) ⟨Nat.le_of_ble_eq_true rfl, Nat.le_of_ble_eq_true rfl⟩) hW (mG_obj _ _ _ _ _ _) rfl rfl rfl rfl hl.1 (Nat.le_of_ble_eq_true rfl) dL_law_1302 ⟨by show cells + 6 + 0 + 0 ≤ 601024; omega, by show slots + 39 + 0 + 0 ≤ 7293034; omega⟩ (fun r3 xb G9 H locs hp hW => ?_)
  obtain ⟨hu, hr3⟩ := hp
  cases hu
  subst hr3
  refine lv_iload hx hb dL_law_1305 (lv_at hl 5 rfl) ?_
  refine lv_icmp_eq (tgt := 1312) hx hb dL_law_1307 (by decide) (fun c_1307 => ?_) (fun c_1307 => ?_)
  · -- eq taken
    have c_1307 := (x_eqN (a := k) (b := k) (by omega) (by omega)).mp c_1307
    refine lv_iload hx hb dL_law_1312 (lv_at hl 5 rfl) ?_
    refine lv_if_ne (tgt := 1329) hx hb dL_law_1314 (by decide) (fun c_1314 => ?_) (fun c_1314 => ?_)
    · -- ne taken
      have c_1314 : ¬ (k = 0) := fun h_ => c_1314 ((x_eqZ (a := k) (by omega)).mpr h_)
      refine lv_goto (tgt := 1631) hx hb dL_law_1329 (by decide) ?_
      exact kk xa1 σ τ1 ρ1 k f1 _ _ _ (hW.eqG lG_m) hg1 hL1 hT1 (lv_sub hl [0, 1, 2, 3, 4] rfl)
    · -- ne not
      have c_1314 := (x_eqZ (a := k) (by omega)).mp c_1314
      refine lv_aload_n hx hb dL_law_1317 rfl (lv_at hl 3 rfl) ?_
      refine lv_iconst (v := nI (0)) hx hb dL_law_1318 (by decide +kernel) ?_
      refine x_lld hx hb hW 30 0 (n := 1) (f := f1) ((if_neg (by omega)).trans ((if_neg (by omega)).trans (xup_self _ _ _ _))) 0 rfl (by omega) (by omega) rfl dL_law_1319 ?_
      refine lv_iload hx hb dL_law_1320 (lv_at hl 6 rfl) ?_
      refine lv_i2l (v := Int32.toInt64 (r2)) hx hb dL_law_1322 rfl ?_
      refine W.lcmp hx hb dL_law_1323 ?_
      obtain ⟨a_, ha1, ha2⟩ := hans c_1314
      have hb2 := hr2 c_1314
      have hab : a_ = r2 := ha2.trans hb2.symm
      have heq : f1 0 = Int32.toInt64 (r2) := by rw [ha1, hab]
      rw [heq, l_cmp]
      refine lv_if_eq (tgt := 1329) hx hb dL_law_1324 (by decide) (fun c_1324 => ?_) (fun c_1324 => ?_)
      · -- eq taken
        refine lv_goto (tgt := 1631) hx hb dL_law_1329 (by decide) ?_
        exact kk xa1 σ τ1 ρ1 k f1 _ _ _ (hW.eqG lG_m) hg1 hL1 hT1 (lv_sub hl [0, 1, 2, 3, 4] rfl)
      · -- eq not
        exact absurd rfl c_1324
  · -- eq not
    have c_1307 : ¬ (k = k) := fun h_ => c_1307 ((x_eqN (a := k) (b := k) (by omega) (by omega)).mpr h_)
    exact absurd rfl c_1307

set_option maxHeartbeats 4000000 in
set_option maxRecDepth 100000 in
theorem op_isLoss (l : Launch) (hst0 : l.stackTraces = false) {p : Program} {e : Env} {s : State} {m : MethodId} {args : Array Value} {below : List Frame} {meth : Method} {c : Code} {H : Heap} {locs : List Loc} {cells slots : Nat} {Q : State → Prop} {ls : Array Slot} {D : xD} {sa : Nat → Nat} {A : Nat → Prop} {xa : xA} {σ : Sg} {τ : Tg} {ρ : Nat → Nat} {la : Nat} {f : Nat → Int64} {b L i : Nat} {xs : Nat → Int32} (hx : p.tables.exec = Jvm.exec) (hb : c.code = cL_law) (hml : c.maxLocals = 7) (hown : s.vm.findClass RL = some m.cls) (hts : ∀ w ∈ wsL_law, w.before args s = true) (hX : va_X b L xs s s.heap) (hbl : b < s.heap.size) (hbA : ¬ A b) (hLL : L ≤ 3072) (hi : i + 6 ≤ L) (hc6 : cells + 6 ≤ 601024) (hs39 : slots + 39 ≤ 7293034) (hW : xW D sa A s xa (lG D xa σ τ ρ la f) H locs) (hg : Gd σ) (hL : LL σ τ) (hT : TE σ τ) (hl : lv_has ls 7 [(0, .ref (b)), (1, .ref (xa 0 0)), (2, .ref (xa 20 0)), (3, .ref (xa 30 0)), (4, .int (nI (i)))])
    (kk : ∀ (xa1 : xA) (σ1 : Sg) (τ1 : Tg) (ρ1 : Nat → Nat) (la1 : Nat) (f1 : Nat → Int64) (H1 : Heap) (locs1 : List Loc) (ls1 : Array Slot), xW D sa A s xa1 (lG D xa1 σ1 τ1 ρ1 la1 f1) H1 locs1 → Gd σ1 → LL σ1 τ1 → TE σ1 τ1 → lv_has ls1 7 [(0, .ref (b)), (1, .ref (xa1 0 0)), (2, .ref (xa1 20 0)), (3, .ref (xa1 30 0)), (4, .int (nI (i)))] → W p l e room_1 s m args below meth c H1 locs1 (cells + 6) (slots + 39) Q (F0 m 1631 ls1 [])) : W p l e room_1 s m args below meth c H locs cells slots Q (F0 m 1332 ls []) := by
  refine lv_aload_n hx hb dL_law_1332 rfl (lv_at hl 1 rfl) ?_
  refine lv_aload_n hx hb dL_law_1333 rfl (lv_at hl 0 rfl) ?_
  refine lv_iload hx hb dL_law_1334 (lv_at hl 4 rfl) ?_
  refine lv_iconst (v := nI (1)) hx hb dL_law_1336 (by decide +kernel) ?_
  refine lv_iadd hx hb dL_law_1337 ?_
  rw [nI_add]
  refine l_sld hx hb hX hbl hbA hLL hW (by omega) dL_law_1338 ?_
  refine lv_aload_n hx hb dL_law_1339 rfl (lv_at hl 0 rfl) ?_
  refine lv_iload hx hb dL_law_1340 (lv_at hl 4 rfl) ?_
  refine lv_iconst (v := nI (2)) hx hb dL_law_1342 (by decide +kernel) ?_
  refine lv_iadd hx hb dL_law_1343 ?_
  rw [nI_add]
  refine l_sld hx hb hX hbl hbA hLL hW (by omega) dL_law_1344 ?_
  refine lv_aload_n hx hb dL_law_1345 rfl (lv_at hl 3 rfl) ?_
  refine xsw_i (As := [.ref (xa 0 0), .int (xs (i + 1)), .int (xs (i + 2)), .ref (xa 30 0)]) (rest := []) ⟨hx, hb, hml, hown, hts⟩ (c_L_isLoss l hst0 D sa xa (mG (G30 D f) D xa σ ρ la) σ τ hg hL hT f G30_O (xs (i + 1)) (xs (i + 2))) (vx_cwSW (hh := [(0, 17, 20, 13)]) 4 hts gL_law_L_isLoss rfl rfl rfl (by decide +kernel) ⟨Nat.le_of_ble_eq_true rfl, Nat.le_of_ble_eq_true rfl⟩) hW rfl rfl hl.1 (Nat.le_of_ble_eq_true rfl) dL_law_1346 ⟨by show cells + 2 ≤ 601024; omega, by show slots + 12 ≤ 7293034; omega⟩ (fun rk xb G9 H locs hp hW => ?_)
  obtain ⟨k, f1, hgk, rfl, xa1, τ1, hag, hu, hL1, hT1, hans⟩ := hp
  have hu2 : G9 = _ := congrArg Prod.snd hu
  subst hu2
  have hu1 : xa1 = xb := (congrArg Prod.fst hu).symm
  subst hu1
  have hW : xW D sa A s xa1 (mG (xGs (G30 D f1) D xa1 σ τ1) D xa1 σ ρ la) H locs := hW.eqG (lG_c (f := f) hag)
  refine W.widen (k := cells + 6) (n := slots + 39) (by omega) (by omega) ?_
  have hl : lv_has ls 7 [(0, .ref (b)), (1, .ref (xa1 0 0)), (2, .ref (xa1 20 0)), (3, .ref (xa1 30 0)), (4, .int (nI (i)))] := by rw [hag 0 0 (by omega), hag 20 0 (by omega), hag 30 0 (by omega)]; exact hl
  have hk4 := hgk.lt
  have hg1 : Gd σ := hg
  refine lv_istore (lv' := [(5, .int (nI (k))), (0, .ref (b)), (1, .ref (xa1 0 0)), (2, .ref (xa1 20 0)), (3, .ref (xa1 30 0)), (4, .int (nI (i)))]) hx hb dL_law_1349 hl (by decide) rfl (fun ls hl => ?_)
  have hl : lv_has ls 7 [(0, .ref (b)), (1, .ref (xa1 0 0)), (2, .ref (xa1 20 0)), (3, .ref (xa1 30 0)), (4, .int (nI (i))), (5, .int (nI (k)))] := lv_sub hl [1, 2, 3, 4, 5, 0] rfl
  refine lv_aload_n hx hb dL_law_1351 rfl (lv_at hl 2 rfl) ?_
  refine lv_aload_n hx hb dL_law_1352 rfl (lv_at hl 0 rfl) ?_
  refine lv_iload hx hb dL_law_1353 (lv_at hl 4 rfl) ?_
  refine lv_iconst (v := nI (1)) hx hb dL_law_1355 (by decide +kernel) ?_
  refine lv_iadd hx hb dL_law_1356 ?_
  rw [nI_add]
  refine l_sld hx hb hX hbl hbA hLL hW (by omega) dL_law_1357 ?_
  refine lv_aload_n hx hb dL_law_1358 rfl (lv_at hl 0 rfl) ?_
  refine lv_iload hx hb dL_law_1359 (lv_at hl 4 rfl) ?_
  refine lv_iconst (v := nI (2)) hx hb dL_law_1361 (by decide +kernel) ?_
  refine lv_iadd hx hb dL_law_1362 ?_
  rw [nI_add]
  refine l_sld hx hb hX hbl hbA hLL hW (by omega) dL_law_1363 ?_
  refine xv_i (k := 20) (i := 0) (As := [.int (xs (i + 1)), .int (xs (i + 2))]) (rest := []) ⟨hx, hb, hml, hown, hts⟩ (c_X5_isLoss l D sa xa1 (xGs (G30 D f1) D xa1 σ τ1) σ ρ la hg (xs (i + 1)) (xs (i + 2))) (cwV 2 hts gL_law_X5_isLoss rfl rfl rfl (by decide +kernel) ⟨Nat.le_of_ble_eq_true rfl, Nat.le_of_ble_eq_true rfl⟩) hW (mG_obj _ _ _ _ _ _) rfl rfl rfl rfl hl.1 (Nat.le_of_ble_eq_true rfl) dL_law_1364 ⟨by show cells + 6 + 0 ≤ 601024; omega, by show slots + 39 + 0 ≤ 7293034; omega⟩ (fun r2 xb G9 H locs hp hW => ?_)
  obtain ⟨k2, ρ1, hgk2, hu, hr2⟩ := hp
  cases hu
  have hkk := gk.uniq hgk hgk2
  subst hkk
  refine lv_istore (lv' := [(6, .int (r2)), (0, .ref (b)), (1, .ref (xa1 0 0)), (2, .ref (xa1 20 0)), (3, .ref (xa1 30 0)), (4, .int (nI (i))), (5, .int (nI (k)))]) hx hb dL_law_1367 hl (by decide) rfl (fun ls hl => ?_)
  have hl : lv_has ls 7 [(0, .ref (b)), (1, .ref (xa1 0 0)), (2, .ref (xa1 20 0)), (3, .ref (xa1 30 0)), (4, .int (nI (i))), (5, .int (nI (k))), (6, .int (r2))] := lv_sub hl [1, 2, 3, 4, 5, 6, 0] rfl
  refine lv_aload_n hx hb dL_law_1369 rfl (lv_at hl 2 rfl) ?_
  refine xv_i (k := 20) (i := 0) (As := []) (rest := []) ⟨hx, hb, hml, hown, hts⟩ (c_X5_thrown l D sa xa1 (xGs (G30 D f1) D xa1 σ τ1) σ ρ1 k hg1) (cwV 0 hts gL_law_X5_thrown rfl rfl rfl (by decide +kernel) ⟨Nat.le_of_ble_eq_true rfl, Nat.le_of_ble_eq_true rfl⟩) hW (mG_obj _ _ _ _ _ _) rfl rfl rfl rfl hl.1 (Nat.le_of_ble_eq_true rfl) dL_law_1370 ⟨by show cells + 6 + 0 + 0 ≤ 601024; omega, by show slots + 39 + 0 + 0 ≤ 7293034; omega⟩ (fun r3 xb G9 H locs hp hW => ?_)
  obtain ⟨hu, hr3⟩ := hp
  cases hu
  subst hr3
  refine lv_iload hx hb dL_law_1373 (lv_at hl 5 rfl) ?_
  refine lv_icmp_eq (tgt := 1380) hx hb dL_law_1375 (by decide) (fun c_1375 => ?_) (fun c_1375 => ?_)
  · -- eq taken
    have c_1375 := (x_eqN (a := k) (b := k) (by omega) (by omega)).mp c_1375
    refine lv_iload hx hb dL_law_1380 (lv_at hl 5 rfl) ?_
    refine lv_if_ne (tgt := 1404) hx hb dL_law_1382 (by decide) (fun c_1382 => ?_) (fun c_1382 => ?_)
    · -- ne taken
      have c_1382 : ¬ (k = 0) := fun h_ => c_1382 ((x_eqZ (a := k) (by omega)).mpr h_)
      refine lv_goto (tgt := 1631) hx hb dL_law_1404 (by decide) ?_
      exact kk xa1 σ τ1 ρ1 k f1 _ _ _ (hW.eqG lG_m) hg1 hL1 hT1 (lv_sub hl [0, 1, 2, 3, 4] rfl)
    · -- ne not
      have c_1382 := (x_eqZ (a := k) (by omega)).mp c_1382
      refine lv_aload_n hx hb dL_law_1385 rfl (lv_at hl 3 rfl) ?_
      refine lv_iconst (v := nI (0)) hx hb dL_law_1386 (by decide +kernel) ?_
      refine x_lld hx hb hW 30 0 (n := 1) (f := f1) ((if_neg (by omega)).trans ((if_neg (by omega)).trans (xup_self _ _ _ _))) 0 rfl (by omega) (by omega) rfl dL_law_1387 ?_
      refine lv_iload hx hb dL_law_1388 (lv_at hl 6 rfl) ?_
      have hb2 := hr2 c_1382
      refine lv_if_eq (tgt := 1397) hx hb dL_law_1390 (by decide) (fun c_1390 => ?_) (fun c_1390 => ?_)
      · -- eq taken
        have c_1390 := hb2.f c_1390
        refine lv_lconst (v := 0) hx hb dL_law_1397 (by decide +kernel) ?_
        refine W.lcmp hx hb dL_law_1398 ?_
        have heq : f1 0 = 0 := (hans c_1382).elim (fun h => absurd h.1 c_1390) (fun h => h.2)
        rw [heq, l_cmp]
        refine lv_if_eq (tgt := 1404) hx hb dL_law_1399 (by decide) (fun c_1399 => ?_) (fun c_1399 => ?_)
        · -- eq taken
          refine lv_goto (tgt := 1631) hx hb dL_law_1404 (by decide) ?_
          exact kk xa1 σ τ1 ρ1 k f1 _ _ _ (hW.eqG lG_m) hg1 hL1 hT1 (lv_sub hl [0, 1, 2, 3, 4] rfl)
        · -- eq not
          exact absurd rfl c_1399
      · -- eq not
        have c_1390 := hb2.t c_1390
        refine lv_lconst (v := 1) hx hb dL_law_1393 (by decide +kernel) ?_
        refine lv_goto (tgt := 1398) hx hb dL_law_1394 (by decide) ?_
        refine W.lcmp hx hb dL_law_1398 ?_
        have heq : f1 0 = 1 := (hans c_1382).elim (fun h => h.2) (fun h => absurd c_1390 h.1)
        rw [heq, l_cmp]
        refine lv_if_eq (tgt := 1404) hx hb dL_law_1399 (by decide) (fun c_1399 => ?_) (fun c_1399 => ?_)
        · -- eq taken
          refine lv_goto (tgt := 1631) hx hb dL_law_1404 (by decide) ?_
          exact kk xa1 σ τ1 ρ1 k f1 _ _ _ (hW.eqG lG_m) hg1 hL1 hT1 (lv_sub hl [0, 1, 2, 3, 4] rfl)
        · -- eq not
          exact absurd rfl c_1399
  · -- eq not
    have c_1375 : ¬ (k = k) := fun h_ => c_1375 ((x_eqN (a := k) (b := k) (by omega) (by omega)).mpr h_)
    exact absurd rfl c_1375

set_option maxHeartbeats 4000000 in
set_option maxRecDepth 100000 in
theorem op_holder (l : Launch) (hst0 : l.stackTraces = false) {p : Program} {e : Env} {s : State} {m : MethodId} {args : Array Value} {below : List Frame} {meth : Method} {c : Code} {H : Heap} {locs : List Loc} {cells slots : Nat} {Q : State → Prop} {ls : Array Slot} {D : xD} {sa : Nat → Nat} {A : Nat → Prop} {xa : xA} {σ : Sg} {τ : Tg} {ρ : Nat → Nat} {la : Nat} {f : Nat → Int64} {b L i : Nat} {xs : Nat → Int32} (hx : p.tables.exec = Jvm.exec) (hb : c.code = cL_law) (hml : c.maxLocals = 7) (hown : s.vm.findClass RL = some m.cls) (hts : ∀ w ∈ wsL_law, w.before args s = true) (hX : va_X b L xs s s.heap) (hbl : b < s.heap.size) (hbA : ¬ A b) (hLL : L ≤ 3072) (hi : i + 6 ≤ L) (hc6 : cells + 6 ≤ 601024) (hs39 : slots + 39 ≤ 7293034) (hW : xW D sa A s xa (lG D xa σ τ ρ la f) H locs) (hg : Gd σ) (hL : LL σ τ) (hT : TE σ τ) (hl : lv_has ls 7 [(0, .ref (b)), (1, .ref (xa 0 0)), (2, .ref (xa 20 0)), (3, .ref (xa 30 0)), (4, .int (nI (i)))])
    (kk : ∀ (xa1 : xA) (σ1 : Sg) (τ1 : Tg) (ρ1 : Nat → Nat) (la1 : Nat) (f1 : Nat → Int64) (H1 : Heap) (locs1 : List Loc) (ls1 : Array Slot), xW D sa A s xa1 (lG D xa1 σ1 τ1 ρ1 la1 f1) H1 locs1 → Gd σ1 → LL σ1 τ1 → TE σ1 τ1 → lv_has ls1 7 [(0, .ref (b)), (1, .ref (xa1 0 0)), (2, .ref (xa1 20 0)), (3, .ref (xa1 30 0)), (4, .int (nI (i)))] → W p l e room_1 s m args below meth c H1 locs1 (cells + 6) (slots + 39) Q (F0 m 1631 ls1 [])) : W p l e room_1 s m args below meth c H locs cells slots Q (F0 m 1407 ls []) := by
  refine lv_aload_n hx hb dL_law_1407 rfl (lv_at hl 1 rfl) ?_
  refine lv_aload_n hx hb dL_law_1408 rfl (lv_at hl 0 rfl) ?_
  refine lv_iload hx hb dL_law_1409 (lv_at hl 4 rfl) ?_
  refine lv_iconst (v := nI (1)) hx hb dL_law_1411 (by decide +kernel) ?_
  refine lv_iadd hx hb dL_law_1412 ?_
  rw [nI_add]
  refine l_sld hx hb hX hbl hbA hLL hW (by omega) dL_law_1413 ?_
  refine lv_aload_n hx hb dL_law_1414 rfl (lv_at hl 3 rfl) ?_
  refine xsw_i (As := [.ref (xa 0 0), .int (xs (i + 1)), .ref (xa 30 0)]) (rest := []) ⟨hx, hb, hml, hown, hts⟩ (c_L_holder l hst0 D sa xa (mG (G30 D f) D xa σ ρ la) σ τ hg hL hT f G30_O (xs (i + 1))) (vx_cwSW (hh := [(0, 9, 12, 13)]) 3 hts gL_law_L_holder rfl rfl rfl (by decide +kernel) ⟨Nat.le_of_ble_eq_true rfl, Nat.le_of_ble_eq_true rfl⟩) hW rfl rfl hl.1 (Nat.le_of_ble_eq_true rfl) dL_law_1415 ⟨by show cells + 1 ≤ 601024; omega, by show slots + 6 ≤ 7293034; omega⟩ (fun rk xb G9 H locs hp hW => ?_)
  obtain ⟨k, f1, hgk, rfl, xa1, τ1, hag, hu, hL1, hT1, hans⟩ := hp
  have hu2 : G9 = _ := congrArg Prod.snd hu
  subst hu2
  have hu1 : xa1 = xb := (congrArg Prod.fst hu).symm
  subst hu1
  have hW : xW D sa A s xa1 (mG (xGs (G30 D f1) D xa1 σ τ1) D xa1 σ ρ la) H locs := hW.eqG (lG_c (f := f) hag)
  refine W.widen (k := cells + 6) (n := slots + 39) (by omega) (by omega) ?_
  have hl : lv_has ls 7 [(0, .ref (b)), (1, .ref (xa1 0 0)), (2, .ref (xa1 20 0)), (3, .ref (xa1 30 0)), (4, .int (nI (i)))] := by rw [hag 0 0 (by omega), hag 20 0 (by omega), hag 30 0 (by omega)]; exact hl
  have hk4 := hgk.lt
  have hg1 : Gd σ := hg
  refine lv_istore (lv' := [(5, .int (nI (k))), (0, .ref (b)), (1, .ref (xa1 0 0)), (2, .ref (xa1 20 0)), (3, .ref (xa1 30 0)), (4, .int (nI (i)))]) hx hb dL_law_1418 hl (by decide) rfl (fun ls hl => ?_)
  have hl : lv_has ls 7 [(0, .ref (b)), (1, .ref (xa1 0 0)), (2, .ref (xa1 20 0)), (3, .ref (xa1 30 0)), (4, .int (nI (i))), (5, .int (nI (k)))] := lv_sub hl [1, 2, 3, 4, 5, 0] rfl
  refine lv_aload_n hx hb dL_law_1420 rfl (lv_at hl 2 rfl) ?_
  refine lv_aload_n hx hb dL_law_1421 rfl (lv_at hl 0 rfl) ?_
  refine lv_iload hx hb dL_law_1422 (lv_at hl 4 rfl) ?_
  refine lv_iconst (v := nI (1)) hx hb dL_law_1424 (by decide +kernel) ?_
  refine lv_iadd hx hb dL_law_1425 ?_
  rw [nI_add]
  refine l_sld hx hb hX hbl hbA hLL hW (by omega) dL_law_1426 ?_
  refine xv_i (k := 20) (i := 0) (As := [.int (xs (i + 1))]) (rest := []) ⟨hx, hb, hml, hown, hts⟩ (c_X5_holder l D sa xa1 (xGs (G30 D f1) D xa1 σ τ1) σ ρ la hg (xs (i + 1))) (cwV 1 hts gL_law_X5_holder rfl rfl rfl (by decide +kernel) ⟨Nat.le_of_ble_eq_true rfl, Nat.le_of_ble_eq_true rfl⟩) hW (mG_obj _ _ _ _ _ _) rfl rfl rfl rfl hl.1 (Nat.le_of_ble_eq_true rfl) dL_law_1427 ⟨by show cells + 6 + 0 ≤ 601024; omega, by show slots + 39 + 0 ≤ 7293034; omega⟩ (fun r2 xb G9 H locs hp hW => ?_)
  obtain ⟨k2, ρ1, hgk2, hu, hr2⟩ := hp
  cases hu
  have hkk := gk.uniq hgk hgk2
  subst hkk
  refine lv_istore (lv' := [(6, .int (r2)), (0, .ref (b)), (1, .ref (xa1 0 0)), (2, .ref (xa1 20 0)), (3, .ref (xa1 30 0)), (4, .int (nI (i))), (5, .int (nI (k)))]) hx hb dL_law_1430 hl (by decide) rfl (fun ls hl => ?_)
  have hl : lv_has ls 7 [(0, .ref (b)), (1, .ref (xa1 0 0)), (2, .ref (xa1 20 0)), (3, .ref (xa1 30 0)), (4, .int (nI (i))), (5, .int (nI (k))), (6, .int (r2))] := lv_sub hl [1, 2, 3, 4, 5, 6, 0] rfl
  refine lv_aload_n hx hb dL_law_1432 rfl (lv_at hl 2 rfl) ?_
  refine xv_i (k := 20) (i := 0) (As := []) (rest := []) ⟨hx, hb, hml, hown, hts⟩ (c_X5_thrown l D sa xa1 (xGs (G30 D f1) D xa1 σ τ1) σ ρ1 k hg1) (cwV 0 hts gL_law_X5_thrown rfl rfl rfl (by decide +kernel) ⟨Nat.le_of_ble_eq_true rfl, Nat.le_of_ble_eq_true rfl⟩) hW (mG_obj _ _ _ _ _ _) rfl rfl rfl rfl hl.1 (Nat.le_of_ble_eq_true rfl) dL_law_1433 ⟨by show cells + 6 + 0 + 0 ≤ 601024; omega, by show slots + 39 + 0 + 0 ≤ 7293034; omega⟩ (fun r3 xb G9 H locs hp hW => ?_)
  obtain ⟨hu, hr3⟩ := hp
  cases hu
  subst hr3
  refine lv_iload hx hb dL_law_1436 (lv_at hl 5 rfl) ?_
  refine lv_icmp_eq (tgt := 1443) hx hb dL_law_1438 (by decide) (fun c_1438 => ?_) (fun c_1438 => ?_)
  · -- eq taken
    have c_1438 := (x_eqN (a := k) (b := k) (by omega) (by omega)).mp c_1438
    refine lv_iload hx hb dL_law_1443 (lv_at hl 5 rfl) ?_
    refine lv_if_ne (tgt := 1460) hx hb dL_law_1445 (by decide) (fun c_1445 => ?_) (fun c_1445 => ?_)
    · -- ne taken
      have c_1445 : ¬ (k = 0) := fun h_ => c_1445 ((x_eqZ (a := k) (by omega)).mpr h_)
      refine lv_goto (tgt := 1631) hx hb dL_law_1460 (by decide) ?_
      exact kk xa1 σ τ1 ρ1 k f1 _ _ _ (hW.eqG lG_m) hg1 hL1 hT1 (lv_sub hl [0, 1, 2, 3, 4] rfl)
    · -- ne not
      have c_1445 := (x_eqZ (a := k) (by omega)).mp c_1445
      refine lv_aload_n hx hb dL_law_1448 rfl (lv_at hl 3 rfl) ?_
      refine lv_iconst (v := nI (0)) hx hb dL_law_1449 (by decide +kernel) ?_
      refine x_lld hx hb hW 30 0 (n := 1) (f := f1) ((if_neg (by omega)).trans ((if_neg (by omega)).trans (xup_self _ _ _ _))) 0 rfl (by omega) (by omega) rfl dL_law_1450 ?_
      refine lv_iload hx hb dL_law_1451 (lv_at hl 6 rfl) ?_
      refine lv_i2l (v := Int32.toInt64 (r2)) hx hb dL_law_1453 rfl ?_
      refine W.lcmp hx hb dL_law_1454 ?_
      obtain ⟨a_, ha1, ha2⟩ := hans c_1445
      have hb2 := hr2 c_1445
      have hab : a_ = r2 := ha2.trans hb2.symm
      have heq : f1 0 = Int32.toInt64 (r2) := by rw [ha1, hab]
      rw [heq, l_cmp]
      refine lv_if_eq (tgt := 1460) hx hb dL_law_1455 (by decide) (fun c_1455 => ?_) (fun c_1455 => ?_)
      · -- eq taken
        refine lv_goto (tgt := 1631) hx hb dL_law_1460 (by decide) ?_
        exact kk xa1 σ τ1 ρ1 k f1 _ _ _ (hW.eqG lG_m) hg1 hL1 hT1 (lv_sub hl [0, 1, 2, 3, 4] rfl)
      · -- eq not
        exact absurd rfl c_1455
  · -- eq not
    have c_1438 : ¬ (k = k) := fun h_ => c_1438 ((x_eqN (a := k) (b := k) (by omega) (by omega)).mpr h_)
    exact absurd rfl c_1438

set_option maxHeartbeats 4000000 in
set_option maxRecDepth 100000 in
theorem op_owner (l : Launch) (hst0 : l.stackTraces = false) {p : Program} {e : Env} {s : State} {m : MethodId} {args : Array Value} {below : List Frame} {meth : Method} {c : Code} {H : Heap} {locs : List Loc} {cells slots : Nat} {Q : State → Prop} {ls : Array Slot} {D : xD} {sa : Nat → Nat} {A : Nat → Prop} {xa : xA} {σ : Sg} {τ : Tg} {ρ : Nat → Nat} {la : Nat} {f : Nat → Int64} {b L i : Nat} {xs : Nat → Int32} (hx : p.tables.exec = Jvm.exec) (hb : c.code = cL_law) (hml : c.maxLocals = 7) (hown : s.vm.findClass RL = some m.cls) (hts : ∀ w ∈ wsL_law, w.before args s = true) (hX : va_X b L xs s s.heap) (hbl : b < s.heap.size) (hbA : ¬ A b) (hLL : L ≤ 3072) (hi : i + 6 ≤ L) (hc6 : cells + 6 ≤ 601024) (hs39 : slots + 39 ≤ 7293034) (hW : xW D sa A s xa (lG D xa σ τ ρ la f) H locs) (hg : Gd σ) (hL : LL σ τ) (hT : TE σ τ) (hl : lv_has ls 7 [(0, .ref (b)), (1, .ref (xa 0 0)), (2, .ref (xa 20 0)), (3, .ref (xa 30 0)), (4, .int (nI (i)))])
    (kk : ∀ (xa1 : xA) (σ1 : Sg) (τ1 : Tg) (ρ1 : Nat → Nat) (la1 : Nat) (f1 : Nat → Int64) (H1 : Heap) (locs1 : List Loc) (ls1 : Array Slot), xW D sa A s xa1 (lG D xa1 σ1 τ1 ρ1 la1 f1) H1 locs1 → Gd σ1 → LL σ1 τ1 → TE σ1 τ1 → lv_has ls1 7 [(0, .ref (b)), (1, .ref (xa1 0 0)), (2, .ref (xa1 20 0)), (3, .ref (xa1 30 0)), (4, .int (nI (i)))] → W p l e room_1 s m args below meth c H1 locs1 (cells + 6) (slots + 39) Q (F0 m 1631 ls1 [])) : W p l e room_1 s m args below meth c H locs cells slots Q (F0 m 1463 ls []) := by
  refine lv_aload_n hx hb dL_law_1463 rfl (lv_at hl 1 rfl) ?_
  refine lv_aload_n hx hb dL_law_1464 rfl (lv_at hl 0 rfl) ?_
  refine lv_iload hx hb dL_law_1465 (lv_at hl 4 rfl) ?_
  refine lv_iconst (v := nI (1)) hx hb dL_law_1467 (by decide +kernel) ?_
  refine lv_iadd hx hb dL_law_1468 ?_
  rw [nI_add]
  refine l_sld hx hb hX hbl hbA hLL hW (by omega) dL_law_1469 ?_
  refine lv_aload_n hx hb dL_law_1470 rfl (lv_at hl 3 rfl) ?_
  refine xsw_i (As := [.ref (xa 0 0), .int (xs (i + 1)), .ref (xa 30 0)]) (rest := []) ⟨hx, hb, hml, hown, hts⟩ (c_L_owner l hst0 D sa xa (mG (G30 D f) D xa σ ρ la) σ τ hg hL hT f G30_O (xs (i + 1))) (vx_cwSW (hh := [(0, 9, 12, 13)]) 3 hts gL_law_L_owner rfl rfl rfl (by decide +kernel) ⟨Nat.le_of_ble_eq_true rfl, Nat.le_of_ble_eq_true rfl⟩) hW rfl rfl hl.1 (Nat.le_of_ble_eq_true rfl) dL_law_1471 ⟨by show cells + 1 ≤ 601024; omega, by show slots + 6 ≤ 7293034; omega⟩ (fun rk xb G9 H locs hp hW => ?_)
  obtain ⟨k, f1, hgk, rfl, xa1, τ1, hag, hu, hL1, hT1, hans⟩ := hp
  have hu2 : G9 = _ := congrArg Prod.snd hu
  subst hu2
  have hu1 : xa1 = xb := (congrArg Prod.fst hu).symm
  subst hu1
  have hW : xW D sa A s xa1 (mG (xGs (G30 D f1) D xa1 σ τ1) D xa1 σ ρ la) H locs := hW.eqG (lG_c (f := f) hag)
  refine W.widen (k := cells + 6) (n := slots + 39) (by omega) (by omega) ?_
  have hl : lv_has ls 7 [(0, .ref (b)), (1, .ref (xa1 0 0)), (2, .ref (xa1 20 0)), (3, .ref (xa1 30 0)), (4, .int (nI (i)))] := by rw [hag 0 0 (by omega), hag 20 0 (by omega), hag 30 0 (by omega)]; exact hl
  have hk4 := hgk.lt
  have hg1 : Gd σ := hg
  refine lv_istore (lv' := [(5, .int (nI (k))), (0, .ref (b)), (1, .ref (xa1 0 0)), (2, .ref (xa1 20 0)), (3, .ref (xa1 30 0)), (4, .int (nI (i)))]) hx hb dL_law_1474 hl (by decide) rfl (fun ls hl => ?_)
  have hl : lv_has ls 7 [(0, .ref (b)), (1, .ref (xa1 0 0)), (2, .ref (xa1 20 0)), (3, .ref (xa1 30 0)), (4, .int (nI (i))), (5, .int (nI (k)))] := lv_sub hl [1, 2, 3, 4, 5, 0] rfl
  refine lv_aload_n hx hb dL_law_1476 rfl (lv_at hl 2 rfl) ?_
  refine lv_aload_n hx hb dL_law_1477 rfl (lv_at hl 0 rfl) ?_
  refine lv_iload hx hb dL_law_1478 (lv_at hl 4 rfl) ?_
  refine lv_iconst (v := nI (1)) hx hb dL_law_1480 (by decide +kernel) ?_
  refine lv_iadd hx hb dL_law_1481 ?_
  rw [nI_add]
  refine l_sld hx hb hX hbl hbA hLL hW (by omega) dL_law_1482 ?_
  refine xv_i (k := 20) (i := 0) (As := [.int (xs (i + 1))]) (rest := []) ⟨hx, hb, hml, hown, hts⟩ (c_X5_owner l D sa xa1 (xGs (G30 D f1) D xa1 σ τ1) σ ρ la hg (xs (i + 1))) (cwV 1 hts gL_law_X5_owner rfl rfl rfl (by decide +kernel) ⟨Nat.le_of_ble_eq_true rfl, Nat.le_of_ble_eq_true rfl⟩) hW (mG_obj _ _ _ _ _ _) rfl rfl rfl rfl hl.1 (Nat.le_of_ble_eq_true rfl) dL_law_1483 ⟨by show cells + 6 + 0 ≤ 601024; omega, by show slots + 39 + 0 ≤ 7293034; omega⟩ (fun r2 xb G9 H locs hp hW => ?_)
  obtain ⟨k2, ρ1, hgk2, hu, hr2⟩ := hp
  cases hu
  have hkk := gk.uniq hgk hgk2
  subst hkk
  refine lv_istore (lv' := [(6, .int (r2)), (0, .ref (b)), (1, .ref (xa1 0 0)), (2, .ref (xa1 20 0)), (3, .ref (xa1 30 0)), (4, .int (nI (i))), (5, .int (nI (k)))]) hx hb dL_law_1486 hl (by decide) rfl (fun ls hl => ?_)
  have hl : lv_has ls 7 [(0, .ref (b)), (1, .ref (xa1 0 0)), (2, .ref (xa1 20 0)), (3, .ref (xa1 30 0)), (4, .int (nI (i))), (5, .int (nI (k))), (6, .int (r2))] := lv_sub hl [1, 2, 3, 4, 5, 6, 0] rfl
  refine lv_aload_n hx hb dL_law_1488 rfl (lv_at hl 2 rfl) ?_
  refine xv_i (k := 20) (i := 0) (As := []) (rest := []) ⟨hx, hb, hml, hown, hts⟩ (c_X5_thrown l D sa xa1 (xGs (G30 D f1) D xa1 σ τ1) σ ρ1 k hg1) (cwV 0 hts gL_law_X5_thrown rfl rfl rfl (by decide +kernel) ⟨Nat.le_of_ble_eq_true rfl, Nat.le_of_ble_eq_true rfl⟩) hW (mG_obj _ _ _ _ _ _) rfl rfl rfl rfl hl.1 (Nat.le_of_ble_eq_true rfl) dL_law_1489 ⟨by show cells + 6 + 0 + 0 ≤ 601024; omega, by show slots + 39 + 0 + 0 ≤ 7293034; omega⟩ (fun r3 xb G9 H locs hp hW => ?_)
  obtain ⟨hu, hr3⟩ := hp
  cases hu
  subst hr3
  refine lv_iload hx hb dL_law_1492 (lv_at hl 5 rfl) ?_
  refine lv_icmp_eq (tgt := 1499) hx hb dL_law_1494 (by decide) (fun c_1494 => ?_) (fun c_1494 => ?_)
  · -- eq taken
    have c_1494 := (x_eqN (a := k) (b := k) (by omega) (by omega)).mp c_1494
    refine lv_iload hx hb dL_law_1499 (lv_at hl 5 rfl) ?_
    refine lv_if_ne (tgt := 1516) hx hb dL_law_1501 (by decide) (fun c_1501 => ?_) (fun c_1501 => ?_)
    · -- ne taken
      have c_1501 : ¬ (k = 0) := fun h_ => c_1501 ((x_eqZ (a := k) (by omega)).mpr h_)
      refine lv_goto (tgt := 1631) hx hb dL_law_1516 (by decide) ?_
      exact kk xa1 σ τ1 ρ1 k f1 _ _ _ (hW.eqG lG_m) hg1 hL1 hT1 (lv_sub hl [0, 1, 2, 3, 4] rfl)
    · -- ne not
      have c_1501 := (x_eqZ (a := k) (by omega)).mp c_1501
      refine lv_aload_n hx hb dL_law_1504 rfl (lv_at hl 3 rfl) ?_
      refine lv_iconst (v := nI (0)) hx hb dL_law_1505 (by decide +kernel) ?_
      refine x_lld hx hb hW 30 0 (n := 1) (f := f1) ((if_neg (by omega)).trans ((if_neg (by omega)).trans (xup_self _ _ _ _))) 0 rfl (by omega) (by omega) rfl dL_law_1506 ?_
      refine lv_iload hx hb dL_law_1507 (lv_at hl 6 rfl) ?_
      refine lv_i2l (v := Int32.toInt64 (r2)) hx hb dL_law_1509 rfl ?_
      refine W.lcmp hx hb dL_law_1510 ?_
      obtain ⟨a_, ha1, ha2⟩ := hans c_1501
      have hb2 := hr2 c_1501
      have hab : a_ = r2 := by
        obtain ⟨o1, h1, h2⟩ := ha2
        obtain ⟨o2, h3, h4⟩ := hb2
        rw [h1, h3, own.uniq h2 h4]
      have heq : f1 0 = Int32.toInt64 (r2) := by rw [ha1, hab]
      rw [heq, l_cmp]
      refine lv_if_eq (tgt := 1516) hx hb dL_law_1511 (by decide) (fun c_1511 => ?_) (fun c_1511 => ?_)
      · -- eq taken
        refine lv_goto (tgt := 1631) hx hb dL_law_1516 (by decide) ?_
        exact kk xa1 σ τ1 ρ1 k f1 _ _ _ (hW.eqG lG_m) hg1 hL1 hT1 (lv_sub hl [0, 1, 2, 3, 4] rfl)
      · -- eq not
        exact absurd rfl c_1511
  · -- eq not
    have c_1494 : ¬ (k = k) := fun h_ => c_1494 ((x_eqN (a := k) (b := k) (by omega) (by omega)).mpr h_)
    exact absurd rfl c_1494

set_option maxHeartbeats 4000000 in
set_option maxRecDepth 100000 in
theorem op_ownerAnew (l : Launch) (hst0 : l.stackTraces = false) {p : Program} {e : Env} {s : State} {m : MethodId} {args : Array Value} {below : List Frame} {meth : Method} {c : Code} {H : Heap} {locs : List Loc} {cells slots : Nat} {Q : State → Prop} {ls : Array Slot} {D : xD} {sa : Nat → Nat} {A : Nat → Prop} {xa : xA} {σ : Sg} {τ : Tg} {ρ : Nat → Nat} {la : Nat} {f : Nat → Int64} {b L i : Nat} {xs : Nat → Int32} (hx : p.tables.exec = Jvm.exec) (hb : c.code = cL_law) (hml : c.maxLocals = 7) (hown : s.vm.findClass RL = some m.cls) (hts : ∀ w ∈ wsL_law, w.before args s = true) (hX : va_X b L xs s s.heap) (hbl : b < s.heap.size) (hbA : ¬ A b) (hLL : L ≤ 3072) (hi : i + 6 ≤ L) (hc6 : cells + 6 ≤ 601024) (hs39 : slots + 39 ≤ 7293034) (hW : xW D sa A s xa (lG D xa σ τ ρ la f) H locs) (hg : Gd σ) (hL : LL σ τ) (hT : TE σ τ) (hl : lv_has ls 7 [(0, .ref (b)), (1, .ref (xa 0 0)), (2, .ref (xa 20 0)), (3, .ref (xa 30 0)), (4, .int (nI (i)))])
    (kk : ∀ (xa1 : xA) (σ1 : Sg) (τ1 : Tg) (ρ1 : Nat → Nat) (la1 : Nat) (f1 : Nat → Int64) (H1 : Heap) (locs1 : List Loc) (ls1 : Array Slot), xW D sa A s xa1 (lG D xa1 σ1 τ1 ρ1 la1 f1) H1 locs1 → Gd σ1 → LL σ1 τ1 → TE σ1 τ1 → lv_has ls1 7 [(0, .ref (b)), (1, .ref (xa1 0 0)), (2, .ref (xa1 20 0)), (3, .ref (xa1 30 0)), (4, .int (nI (i)))] → W p l e room_1 s m args below meth c H1 locs1 (cells + 6) (slots + 39) Q (F0 m 1631 ls1 [])) : W p l e room_1 s m args below meth c H locs cells slots Q (F0 m 1519 ls []) := by
  refine lv_aload_n hx hb dL_law_1519 rfl (lv_at hl 1 rfl) ?_
  refine lv_aload_n hx hb dL_law_1520 rfl (lv_at hl 0 rfl) ?_
  refine lv_iload hx hb dL_law_1521 (lv_at hl 4 rfl) ?_
  refine lv_iconst (v := nI (1)) hx hb dL_law_1523 (by decide +kernel) ?_
  refine lv_iadd hx hb dL_law_1524 ?_
  rw [nI_add]
  refine l_sld hx hb hX hbl hbA hLL hW (by omega) dL_law_1525 ?_
  refine lv_aload_n hx hb dL_law_1526 rfl (lv_at hl 3 rfl) ?_
  refine xsw_i (As := [.ref (xa 0 0), .int (xs (i + 1)), .ref (xa 30 0)]) (rest := []) ⟨hx, hb, hml, hown, hts⟩ (c_L_ownerAnew l hst0 D sa xa (mG (G30 D f) D xa σ ρ la) σ τ hg hL hT f G30_O (xs (i + 1))) (vx_cwSW (hh := [(0, 9, 12, 13)]) 3 hts gL_law_L_ownerAnew rfl rfl rfl (by decide +kernel) ⟨Nat.le_of_ble_eq_true rfl, Nat.le_of_ble_eq_true rfl⟩) hW rfl rfl hl.1 (Nat.le_of_ble_eq_true rfl) dL_law_1527 ⟨by show cells + 1 ≤ 601024; omega, by show slots + 6 ≤ 7293034; omega⟩ (fun rk xb G9 H locs hp hW => ?_)
  obtain ⟨k, f1, hgk, rfl, xa1, τ1, hag, hu, hL1, hT1, hans⟩ := hp
  have hu2 : G9 = _ := congrArg Prod.snd hu
  subst hu2
  have hu1 : xa1 = xb := (congrArg Prod.fst hu).symm
  subst hu1
  have hW : xW D sa A s xa1 (mG (xGs (G30 D f1) D xa1 σ τ1) D xa1 σ ρ la) H locs := hW.eqG (lG_c (f := f) hag)
  refine W.widen (k := cells + 6) (n := slots + 39) (by omega) (by omega) ?_
  have hl : lv_has ls 7 [(0, .ref (b)), (1, .ref (xa1 0 0)), (2, .ref (xa1 20 0)), (3, .ref (xa1 30 0)), (4, .int (nI (i)))] := by rw [hag 0 0 (by omega), hag 20 0 (by omega), hag 30 0 (by omega)]; exact hl
  have hk4 := hgk.lt
  have hg1 : Gd σ := hg
  refine lv_istore (lv' := [(5, .int (nI (k))), (0, .ref (b)), (1, .ref (xa1 0 0)), (2, .ref (xa1 20 0)), (3, .ref (xa1 30 0)), (4, .int (nI (i)))]) hx hb dL_law_1530 hl (by decide) rfl (fun ls hl => ?_)
  have hl : lv_has ls 7 [(0, .ref (b)), (1, .ref (xa1 0 0)), (2, .ref (xa1 20 0)), (3, .ref (xa1 30 0)), (4, .int (nI (i))), (5, .int (nI (k)))] := lv_sub hl [1, 2, 3, 4, 5, 0] rfl
  refine lv_aload_n hx hb dL_law_1532 rfl (lv_at hl 2 rfl) ?_
  refine lv_aload_n hx hb dL_law_1533 rfl (lv_at hl 0 rfl) ?_
  refine lv_iload hx hb dL_law_1534 (lv_at hl 4 rfl) ?_
  refine lv_iconst (v := nI (1)) hx hb dL_law_1536 (by decide +kernel) ?_
  refine lv_iadd hx hb dL_law_1537 ?_
  rw [nI_add]
  refine l_sld hx hb hX hbl hbA hLL hW (by omega) dL_law_1538 ?_
  refine xv_i (k := 20) (i := 0) (As := [.int (xs (i + 1))]) (rest := []) ⟨hx, hb, hml, hown, hts⟩ (c_X5_ownerAnew l D sa xa1 (xGs (G30 D f1) D xa1 σ τ1) σ ρ la hg (xs (i + 1))) (cwV 1 hts gL_law_X5_ownerAnew rfl rfl rfl (by decide +kernel) ⟨Nat.le_of_ble_eq_true rfl, Nat.le_of_ble_eq_true rfl⟩) hW (mG_obj _ _ _ _ _ _) rfl rfl rfl rfl hl.1 (Nat.le_of_ble_eq_true rfl) dL_law_1539 ⟨by show cells + 6 + 0 ≤ 601024; omega, by show slots + 39 + 0 ≤ 7293034; omega⟩ (fun r2 xb G9 H locs hp hW => ?_)
  obtain ⟨k2, ρ1, hgk2, hu, hr2⟩ := hp
  cases hu
  have hkk := gk.uniq hgk hgk2
  subst hkk
  refine lv_istore (lv' := [(6, .int (r2)), (0, .ref (b)), (1, .ref (xa1 0 0)), (2, .ref (xa1 20 0)), (3, .ref (xa1 30 0)), (4, .int (nI (i))), (5, .int (nI (k)))]) hx hb dL_law_1542 hl (by decide) rfl (fun ls hl => ?_)
  have hl : lv_has ls 7 [(0, .ref (b)), (1, .ref (xa1 0 0)), (2, .ref (xa1 20 0)), (3, .ref (xa1 30 0)), (4, .int (nI (i))), (5, .int (nI (k))), (6, .int (r2))] := lv_sub hl [1, 2, 3, 4, 5, 6, 0] rfl
  refine lv_aload_n hx hb dL_law_1544 rfl (lv_at hl 2 rfl) ?_
  refine xv_i (k := 20) (i := 0) (As := []) (rest := []) ⟨hx, hb, hml, hown, hts⟩ (c_X5_thrown l D sa xa1 (xGs (G30 D f1) D xa1 σ τ1) σ ρ1 k hg1) (cwV 0 hts gL_law_X5_thrown rfl rfl rfl (by decide +kernel) ⟨Nat.le_of_ble_eq_true rfl, Nat.le_of_ble_eq_true rfl⟩) hW (mG_obj _ _ _ _ _ _) rfl rfl rfl rfl hl.1 (Nat.le_of_ble_eq_true rfl) dL_law_1545 ⟨by show cells + 6 + 0 + 0 ≤ 601024; omega, by show slots + 39 + 0 + 0 ≤ 7293034; omega⟩ (fun r3 xb G9 H locs hp hW => ?_)
  obtain ⟨hu, hr3⟩ := hp
  cases hu
  subst hr3
  refine lv_iload hx hb dL_law_1548 (lv_at hl 5 rfl) ?_
  refine lv_icmp_eq (tgt := 1555) hx hb dL_law_1550 (by decide) (fun c_1550 => ?_) (fun c_1550 => ?_)
  · -- eq taken
    have c_1550 := (x_eqN (a := k) (b := k) (by omega) (by omega)).mp c_1550
    refine lv_iload hx hb dL_law_1555 (lv_at hl 5 rfl) ?_
    refine lv_if_ne (tgt := 1572) hx hb dL_law_1557 (by decide) (fun c_1557 => ?_) (fun c_1557 => ?_)
    · -- ne taken
      have c_1557 : ¬ (k = 0) := fun h_ => c_1557 ((x_eqZ (a := k) (by omega)).mpr h_)
      refine lv_goto (tgt := 1631) hx hb dL_law_1572 (by decide) ?_
      exact kk xa1 σ τ1 ρ1 k f1 _ _ _ (hW.eqG lG_m) hg1 hL1 hT1 (lv_sub hl [0, 1, 2, 3, 4] rfl)
    · -- ne not
      have c_1557 := (x_eqZ (a := k) (by omega)).mp c_1557
      refine lv_aload_n hx hb dL_law_1560 rfl (lv_at hl 3 rfl) ?_
      refine lv_iconst (v := nI (0)) hx hb dL_law_1561 (by decide +kernel) ?_
      refine x_lld hx hb hW 30 0 (n := 1) (f := f1) ((if_neg (by omega)).trans ((if_neg (by omega)).trans (xup_self _ _ _ _))) 0 rfl (by omega) (by omega) rfl dL_law_1562 ?_
      refine lv_iload hx hb dL_law_1563 (lv_at hl 6 rfl) ?_
      refine lv_i2l (v := Int32.toInt64 (r2)) hx hb dL_law_1565 rfl ?_
      refine W.lcmp hx hb dL_law_1566 ?_
      obtain ⟨a_, ha1, ha2⟩ := hans c_1557
      have hb2 := hr2 c_1557
      have hab : a_ = r2 := by
        obtain ⟨o1, h1, h2⟩ := ha2
        obtain ⟨o2, h3, h4⟩ := hb2
        rw [h1, h3, own.uniq h2 h4]
      have heq : f1 0 = Int32.toInt64 (r2) := by rw [ha1, hab]
      rw [heq, l_cmp]
      refine lv_if_eq (tgt := 1572) hx hb dL_law_1567 (by decide) (fun c_1567 => ?_) (fun c_1567 => ?_)
      · -- eq taken
        refine lv_goto (tgt := 1631) hx hb dL_law_1572 (by decide) ?_
        exact kk xa1 σ τ1 ρ1 k f1 _ _ _ (hW.eqG lG_m) hg1 hL1 hT1 (lv_sub hl [0, 1, 2, 3, 4] rfl)
      · -- eq not
        exact absurd rfl c_1567
  · -- eq not
    have c_1550 : ¬ (k = k) := fun h_ => c_1550 ((x_eqN (a := k) (b := k) (by omega) (by omega)).mpr h_)
    exact absurd rfl c_1550

set_option maxHeartbeats 4000000 in
set_option maxRecDepth 100000 in
theorem op_asks (l : Launch) (hst0 : l.stackTraces = false) {p : Program} {e : Env} {s : State} {m : MethodId} {args : Array Value} {below : List Frame} {meth : Method} {c : Code} {H : Heap} {locs : List Loc} {cells slots : Nat} {Q : State → Prop} {ls : Array Slot} {D : xD} {sa : Nat → Nat} {A : Nat → Prop} {xa : xA} {σ : Sg} {τ : Tg} {ρ : Nat → Nat} {la : Nat} {f : Nat → Int64} {b L i : Nat} {xs : Nat → Int32} (hx : p.tables.exec = Jvm.exec) (hb : c.code = cL_law) (hml : c.maxLocals = 7) (hown : s.vm.findClass RL = some m.cls) (hts : ∀ w ∈ wsL_law, w.before args s = true) (hX : va_X b L xs s s.heap) (hbl : b < s.heap.size) (hbA : ¬ A b) (hLL : L ≤ 3072) (hi : i + 6 ≤ L) (hc6 : cells + 6 ≤ 601024) (hs39 : slots + 39 ≤ 7293034) (hW : xW D sa A s xa (lG D xa σ τ ρ la f) H locs) (hg : Gd σ) (hL : LL σ τ) (hT : TE σ τ) (hl : lv_has ls 7 [(0, .ref (b)), (1, .ref (xa 0 0)), (2, .ref (xa 20 0)), (3, .ref (xa 30 0)), (4, .int (nI (i)))])
    (kk : ∀ (xa1 : xA) (σ1 : Sg) (τ1 : Tg) (ρ1 : Nat → Nat) (la1 : Nat) (f1 : Nat → Int64) (H1 : Heap) (locs1 : List Loc) (ls1 : Array Slot), xW D sa A s xa1 (lG D xa1 σ1 τ1 ρ1 la1 f1) H1 locs1 → Gd σ1 → LL σ1 τ1 → TE σ1 τ1 → lv_has ls1 7 [(0, .ref (b)), (1, .ref (xa1 0 0)), (2, .ref (xa1 20 0)), (3, .ref (xa1 30 0)), (4, .int (nI (i)))] → W p l e room_1 s m args below meth c H1 locs1 (cells + 6) (slots + 39) Q (F0 m 1631 ls1 [])) : W p l e room_1 s m args below meth c H locs cells slots Q (F0 m 1575 ls []) := by
  refine lv_aload_n hx hb dL_law_1575 rfl (lv_at hl 1 rfl) ?_
  refine lv_aload_n hx hb dL_law_1576 rfl (lv_at hl 0 rfl) ?_
  refine lv_iload hx hb dL_law_1577 (lv_at hl 4 rfl) ?_
  refine lv_iconst (v := nI (1)) hx hb dL_law_1579 (by decide +kernel) ?_
  refine lv_iadd hx hb dL_law_1580 ?_
  rw [nI_add]
  refine l_sld hx hb hX hbl hbA hLL hW (by omega) dL_law_1581 ?_
  refine lv_aload_n hx hb dL_law_1582 rfl (lv_at hl 3 rfl) ?_
  refine xsw_i (As := [.ref (xa 0 0), .int (xs (i + 1)), .ref (xa 30 0)]) (rest := []) ⟨hx, hb, hml, hown, hts⟩ (c_L_asks l hst0 D sa xa (mG (G30 D f) D xa σ ρ la) σ τ hg hL hT f G30_O (xs (i + 1))) (vx_cwSW (hh := [(0, 9, 12, 13)]) 3 hts gL_law_L_asks rfl rfl rfl (by decide +kernel) ⟨Nat.le_of_ble_eq_true rfl, Nat.le_of_ble_eq_true rfl⟩) hW rfl rfl hl.1 (Nat.le_of_ble_eq_true rfl) dL_law_1583 ⟨by show cells + 1 ≤ 601024; omega, by show slots + 6 ≤ 7293034; omega⟩ (fun rk xb G9 H locs hp hW => ?_)
  obtain ⟨k, f1, hgk, rfl, xa1, τ1, hag, hu, hL1, hT1, hans⟩ := hp
  have hu2 : G9 = _ := congrArg Prod.snd hu
  subst hu2
  have hu1 : xa1 = xb := (congrArg Prod.fst hu).symm
  subst hu1
  have hW : xW D sa A s xa1 (mG (xGs (G30 D f1) D xa1 σ τ1) D xa1 σ ρ la) H locs := hW.eqG (lG_c (f := f) hag)
  refine W.widen (k := cells + 6) (n := slots + 39) (by omega) (by omega) ?_
  have hl : lv_has ls 7 [(0, .ref (b)), (1, .ref (xa1 0 0)), (2, .ref (xa1 20 0)), (3, .ref (xa1 30 0)), (4, .int (nI (i)))] := by rw [hag 0 0 (by omega), hag 20 0 (by omega), hag 30 0 (by omega)]; exact hl
  have hk4 := hgk.lt
  have hg1 : Gd σ := hg
  refine lv_istore (lv' := [(5, .int (nI (k))), (0, .ref (b)), (1, .ref (xa1 0 0)), (2, .ref (xa1 20 0)), (3, .ref (xa1 30 0)), (4, .int (nI (i)))]) hx hb dL_law_1586 hl (by decide) rfl (fun ls hl => ?_)
  have hl : lv_has ls 7 [(0, .ref (b)), (1, .ref (xa1 0 0)), (2, .ref (xa1 20 0)), (3, .ref (xa1 30 0)), (4, .int (nI (i))), (5, .int (nI (k)))] := lv_sub hl [1, 2, 3, 4, 5, 0] rfl
  refine lv_aload_n hx hb dL_law_1588 rfl (lv_at hl 2 rfl) ?_
  refine lv_aload_n hx hb dL_law_1589 rfl (lv_at hl 0 rfl) ?_
  refine lv_iload hx hb dL_law_1590 (lv_at hl 4 rfl) ?_
  refine lv_iconst (v := nI (1)) hx hb dL_law_1592 (by decide +kernel) ?_
  refine lv_iadd hx hb dL_law_1593 ?_
  rw [nI_add]
  refine l_sld hx hb hX hbl hbA hLL hW (by omega) dL_law_1594 ?_
  refine xv_i (k := 20) (i := 0) (As := [.int (xs (i + 1))]) (rest := []) ⟨hx, hb, hml, hown, hts⟩ (c_X5_asks l D sa xa1 (xGs (G30 D f1) D xa1 σ τ1) σ ρ la hg (xs (i + 1))) (cwV 1 hts gL_law_X5_asks rfl rfl rfl (by decide +kernel) ⟨Nat.le_of_ble_eq_true rfl, Nat.le_of_ble_eq_true rfl⟩) hW (mG_obj _ _ _ _ _ _) rfl rfl rfl rfl hl.1 (Nat.le_of_ble_eq_true rfl) dL_law_1595 ⟨by show cells + 6 + 0 ≤ 601024; omega, by show slots + 39 + 0 ≤ 7293034; omega⟩ (fun r2 xb G9 H locs hp hW => ?_)
  obtain ⟨k2, ρ1, hgk2, hu, hr2⟩ := hp
  cases hu
  have hkk := gk.uniq hgk hgk2
  subst hkk
  refine lv_istore (lv' := [(6, .int (r2)), (0, .ref (b)), (1, .ref (xa1 0 0)), (2, .ref (xa1 20 0)), (3, .ref (xa1 30 0)), (4, .int (nI (i))), (5, .int (nI (k)))]) hx hb dL_law_1598 hl (by decide) rfl (fun ls hl => ?_)
  have hl : lv_has ls 7 [(0, .ref (b)), (1, .ref (xa1 0 0)), (2, .ref (xa1 20 0)), (3, .ref (xa1 30 0)), (4, .int (nI (i))), (5, .int (nI (k))), (6, .int (r2))] := lv_sub hl [1, 2, 3, 4, 5, 6, 0] rfl
  refine lv_aload_n hx hb dL_law_1600 rfl (lv_at hl 2 rfl) ?_
  refine xv_i (k := 20) (i := 0) (As := []) (rest := []) ⟨hx, hb, hml, hown, hts⟩ (c_X5_thrown l D sa xa1 (xGs (G30 D f1) D xa1 σ τ1) σ ρ1 k hg1) (cwV 0 hts gL_law_X5_thrown rfl rfl rfl (by decide +kernel) ⟨Nat.le_of_ble_eq_true rfl, Nat.le_of_ble_eq_true rfl⟩) hW (mG_obj _ _ _ _ _ _) rfl rfl rfl rfl hl.1 (Nat.le_of_ble_eq_true rfl) dL_law_1601 ⟨by show cells + 6 + 0 + 0 ≤ 601024; omega, by show slots + 39 + 0 + 0 ≤ 7293034; omega⟩ (fun r3 xb G9 H locs hp hW => ?_)
  obtain ⟨hu, hr3⟩ := hp
  cases hu
  subst hr3
  refine lv_iload hx hb dL_law_1604 (lv_at hl 5 rfl) ?_
  refine lv_icmp_eq (tgt := 1611) hx hb dL_law_1606 (by decide) (fun c_1606 => ?_) (fun c_1606 => ?_)
  · -- eq taken
    have c_1606 := (x_eqN (a := k) (b := k) (by omega) (by omega)).mp c_1606
    refine lv_iload hx hb dL_law_1611 (lv_at hl 5 rfl) ?_
    refine lv_if_ne (tgt := 1628) hx hb dL_law_1613 (by decide) (fun c_1613 => ?_) (fun c_1613 => ?_)
    · -- ne taken
      have c_1613 : ¬ (k = 0) := fun h_ => c_1613 ((x_eqZ (a := k) (by omega)).mpr h_)
      refine lv_goto (tgt := 1631) hx hb dL_law_1628 (by decide) ?_
      exact kk xa1 σ τ1 ρ1 k f1 _ _ _ (hW.eqG lG_m) hg1 hL1 hT1 (lv_sub hl [0, 1, 2, 3, 4] rfl)
    · -- ne not
      have c_1613 := (x_eqZ (a := k) (by omega)).mp c_1613
      refine lv_aload_n hx hb dL_law_1616 rfl (lv_at hl 3 rfl) ?_
      refine lv_iconst (v := nI (0)) hx hb dL_law_1617 (by decide +kernel) ?_
      refine x_lld hx hb hW 30 0 (n := 1) (f := f1) ((if_neg (by omega)).trans ((if_neg (by omega)).trans (xup_self _ _ _ _))) 0 rfl (by omega) (by omega) rfl dL_law_1618 ?_
      refine lv_iload hx hb dL_law_1619 (lv_at hl 6 rfl) ?_
      refine lv_i2l (v := Int32.toInt64 (r2)) hx hb dL_law_1621 rfl ?_
      refine W.lcmp hx hb dL_law_1622 ?_
      obtain ⟨a_, ha1, ha2⟩ := hans c_1613
      have hb2 := hr2 c_1613
      have hab : a_ = r2 := by
        obtain ⟨o1, h1, h2⟩ := ha2
        obtain ⟨o2, h3, h4⟩ := hb2
        rw [h1, h3, cnt.uniq h2 h4]
      have heq : f1 0 = Int32.toInt64 (r2) := by rw [ha1, hab]
      rw [heq, l_cmp]
      refine lv_if_eq (tgt := 1628) hx hb dL_law_1623 (by decide) (fun c_1623 => ?_) (fun c_1623 => ?_)
      · -- eq taken
        refine lv_goto (tgt := 1631) hx hb dL_law_1628 (by decide) ?_
        exact kk xa1 σ τ1 ρ1 k f1 _ _ _ (hW.eqG lG_m) hg1 hL1 hT1 (lv_sub hl [0, 1, 2, 3, 4] rfl)
      · -- eq not
        exact absurd rfl c_1623
  · -- eq not
    have c_1606 : ¬ (k = k) := fun h_ => c_1606 ((x_eqN (a := k) (b := k) (by omega) (by omega)).mpr h_)
    exact absurd rfl c_1606
