/-! EVERY CALL KEEPS WHAT A STATE KEEPS -/
theorem pP_xn {σ : Sg} {x : Int32} (h : pP σ x) : xn x < σ 5 0 := by unfold pP at h; unfold xn; omega
theorem pT_xn {σ : Sg} {x : Int32} (h : pT σ x) : xn x < σ 12 0 := by unfold pT at h; unfold xn; omega
theorem pL_xn {x : Int32} (h : pL x) : xn x < 5 := by unfold pL at h; unfold xn; omega
theorem pS_xn {σ : Sg} {t x : Int32} (h : pS σ t x) : xn t < σ 12 0 ∧ xn x < σ 11 (xn t) := by
  obtain ⟨h1, h2, h3⟩ := h
  refine ⟨pT_xn h1, ?_⟩
  generalize σ 11 (xn t) = n at h3
  unfold xn
  omega
theorem rg_xn {x : Int32} {a b : Nat} (h : rg x a b) : a ≤ xn x ∧ xn x ≤ b := by unfold rg at h; unfold xn; omega
theorem g_B {σ : Sg} (h : ∀ j i, σ j i < 65536) {r p v : Nat} (hv : v < 65536) : ∀ j i, sup σ r p v j i < 65536 := by
  intro j i
  unfold sup
  split
  · exact hv
  · exact h j i
theorem g_up {σ : Sg} {r p v : Nat} {P : Nat → Prop} {q : Nat} (hv : q = p → P v) (h : q ≠ p → P (σ r q)) : P (sup σ r p v r q) := by
  by_cases hq : q = p
  · rw [hq, sup_self]; exact hv hq
  · rw [sup_ne σ (by omega)]; exact h hq
theorem g_die {σ : Sg} (hg : Gd σ) {x : Int32} {k : Nat} (h : gk (pP σ x) (σ 2 (xn x) = 0) True k) : Gd (t_die σ x k) := by
  unfold t_die
  split
  case isFalse => exact hg
  case isTrue h0 =>
    subst h0
    have hi := pP_xn h.zero.1
    obtain ⟨a1, a2, a3, a4, a5, a6, a7, a8, a9⟩ := hg
    exact ⟨g_B a1 (by omega), a2, fun i hi' => ⟨(a3 i hi').1, g_up (P := fun z => z < 2) (fun _ => by omega) (fun _ => (a3 i hi').2.1), (a3 i hi').2.2⟩, fun i hi' => ⟨(sup_ne σ (fun hq => absurd (show σ 5 0 ≤ i from hi') (by have := hq.2; omega))).trans (a4 i hi').1, (a4 i hi').2⟩, a5, a6, a7, a8, a9⟩
theorem g_faith {σ : Sg} (hg : Gd σ) {a y : Int32} {k : Nat} (h : gk (pL a) (rg y 0 60) True k) : Gd (t_faith σ a y k) := by
  unfold t_faith
  split
  case isFalse => exact hg
  case isTrue h0 =>
    subst h0
    have hy := rg_xn (a := 0) (b := 60) h.zero.2.1
    obtain ⟨a1, a2, a3, a4, a5, a6, a7, a8, a9⟩ := hg
    exact ⟨g_B a1 (by omega), a2, a3, a4, a5, a6, a7, fun i => g_up (P := fun z => z ≤ 60) (fun _ => hy.2) (fun _ => a8 i), a9⟩
theorem g_now {σ : Sg} (hg : Gd σ) {y : Int32} {k : Nat} (h : gk ((σ 0 0 : Int) ≤ y.toInt ∧ y.toInt ≤ 2100) True True k) : Gd (t_now σ y k) := by
  unfold t_now
  split
  case isFalse => exact hg
  case isTrue h0 =>
    subst h0
    have hy := h.zero.1
    have h1 : σ 0 0 ≤ xn y ∧ xn y ≤ 2100 := by unfold xn; omega
    obtain ⟨a1, a2, a3, a4, a5, a6, a7, a8, a9⟩ := hg
    have e0 : sup σ 0 0 (xn y) 0 0 = xn y := sup_self _ _ _ _
    refine ⟨g_B a1 (by omega), ⟨a2.1, a2.2.1, a2.2.2.1, ?_, ?_⟩, a3, a4, fun i hi => ⟨(a5 i hi).1, (a5 i hi).2.1, fun q hq => ?_⟩, a6, a7, a8, a9⟩
    · rw [e0]; have := a2.2.2.2.1; omega
    · rw [e0]; exact h1.2
    · obtain ⟨b1, b2, b3, b4, b5, b6⟩ := (a5 i hi).2.2 q hq
      refine ⟨b1, b2, b3, b4, ?_, b6⟩
      rw [e0]
      exact Nat.le_trans b5 h1.1
theorem g_mark {σ : Sg} (hg : Gd σ) {t b : Int32} {bn k : Nat} (h : gk (pT σ t) (rg b 0 15) True k) : Gd (t_mark σ t b bn k) := by
  unfold t_mark
  split
  case isFalse => exact hg
  case isTrue h0 =>
    subst h0
    have hb := rg_xn (a := 0) (b := 15) h.zero.2.1
    obtain ⟨a1, a2, a3, a4, a5, a6, a7, a8, a9⟩ := hg
    exact ⟨g_B a1 (mkv_lt (a1 _ _) (by omega)), a2, a3, a4, a5, a6, a7, a8, a9⟩
theorem g_st2 {σ : Sg} {i q p s : Nat} (h8 : q < σ 11 i) (h9 : σ 11 i ≤ 8) (hs : 8 * p + s = 8 * i + q) (hs8 : s < 8) : p = i ∧ s = q := by omega
theorem g_rebut {σ : Sg} (hg : Gd σ) {t x : Int32} {bn k : Nat} (hbn : bn < 2) (h : gk (pS σ t x) (σ 14 (8 * xn t + xn x) = 0) True k) : Gd (t_rebut σ t x bn k) := by
  unfold t_rebut
  split
  case isFalse => exact hg
  case isTrue h0 =>
    subst h0
    obtain ⟨h1, h2⟩ := pS_xn h.zero.1
    have h8 := hg.hs8 (xn t)
    obtain ⟨a1, a2, a3, a4, a5, a6, a7, a8, a9⟩ := hg
    refine ⟨g_B a1 (by omega), a2, a3, a4, fun i hi => ⟨(a5 i hi).1, (a5 i hi).2.1, fun q hq => ?_⟩, a6, fun i q hi hq => ?_, a8, a9⟩
    · obtain ⟨b1, b2, b3, b4, b5, b6, b7⟩ := (a5 i hi).2.2 q hq
      exact ⟨b1, b2, b3, b4, b5, g_up (P := fun z => z < 2) (fun _ => hbn) (fun _ => b6), b7⟩
    · refine ⟨(sup_ne σ (fun hz => ?_)).trans (a7 i q hi hq).1, (a7 i q hi hq).2⟩
      obtain ⟨rfl, rfl⟩ := g_st2 h2 h8 hz.2 hq
      exact absurd (show σ 11 (xn t) ≤ xn x from hi) (by omega)
theorem g_settle {σ : Sg} (hg : Gd σ) {t x : Int32} {bn k : Nat} (hbn : bn < 2) (h : gk (pS σ t x) True True k) : Gd (t_settle σ t x bn k) := by
  unfold t_settle
  split
  case isFalse => exact hg
  case isTrue h0 =>
    subst h0
    obtain ⟨h1, h2⟩ := pS_xn h.zero.1
    have h8 := hg.hs8 (xn t)
    obtain ⟨a1, a2, a3, a4, a5, a6, a7, a8, a9⟩ := hg
    refine ⟨g_B a1 (by omega), a2, a3, a4, fun i hi => ⟨(a5 i hi).1, (a5 i hi).2.1, fun q hq => ?_⟩, a6, fun i q hi hq => ?_, a8, a9⟩
    · obtain ⟨b1, b2, b3, b4, b5, b6, b7⟩ := (a5 i hi).2.2 q hq
      exact ⟨b1, b2, b3, b4, b5, b6, g_up (P := fun z => z < 2) (fun _ => hbn) (fun _ => b7)⟩
    · refine ⟨(a7 i q hi hq).1, (sup_ne σ (fun hz => ?_)).trans (a7 i q hi hq).2⟩
      obtain ⟨rfl, rfl⟩ := g_st2 h2 h8 hz.2 hq
      exact absurd (show σ 11 (xn t) ≤ xn x from hi) (by omega)
theorem g_person {σ : Sg} (hg : Gd σ) {x : Int32} {k : Nat} (h : gk (rg x 0 3) (σ 5 0 < 12) True k) : Gd (t_person σ x k) := by
  unfold t_person
  split
  case isFalse => exact hg
  case isTrue h0 =>
    subst h0
    obtain ⟨hx, hn, -⟩ := h.zero
    have hx := rg_xn (a := 0) (b := 3) hx
    obtain ⟨a1, a2, a3, a4, a5, a6, a7, a8, a9⟩ := hg
    have e5 : sup (sup σ 1 (σ 5 0) (xn x)) 5 0 (σ 5 0 + 1) 5 0 = σ 5 0 + 1 := sup_self _ _ _ _
    refine ⟨g_B (g_B a1 (by omega)) (by omega), ⟨by rw [e5]; omega, a2.2⟩, fun i hi => ?_, fun i hi => ?_, fun i hi => ?_, a6, a7, a8, a9⟩
    · rw [e5] at hi
      by_cases hq : i = σ 5 0
      · subst hq
        have h4 := a4 (σ 5 0) (Nat.le_refl _)
        refine ⟨?_, ?_, ?_, fun q hq => ?_, fun q q' hq => ?_⟩
        · show sup σ 1 (σ 5 0) (xn x) 1 (σ 5 0) < 4
          rw [sup_self]; omega
        · show σ 2 (σ 5 0) < 2
          omega
        · show σ 4 (σ 5 0) < 12
          omega
        · exact absurd (show q < σ 4 (σ 5 0) from hq) (by omega)
        · exact absurd (show q < σ 4 (σ 5 0) from hq) (by omega)
      · obtain ⟨b1, b2, b3, b4, b5⟩ := a3 i (by omega)
        refine ⟨?_, b2, b3, fun q hq => ?_, b5⟩
        · show sup σ 1 (σ 5 0) (xn x) 1 i < 4
          rw [sup_ne σ (by omega)]; exact b1
        · rw [e5]
          exact ⟨Nat.lt_succ_of_lt (b4 q hq).1, (b4 q hq).2⟩
    · rw [e5] at hi
      exact a4 i (by omega)
    · obtain ⟨b1, b2, b3⟩ := a5 i hi
      refine ⟨b1, b2, fun q hq => ?_⟩
      rw [e5]
      exact ⟨Nat.lt_succ_of_lt (b3 q hq).1, (b3 q hq).2⟩
theorem g_persecution {σ : Sg} (hg : Gd σ) {g a f t : Int32} {k : Nat} (h : gk (rg g 0 3 ∧ pL a) (rg f 1900 2100 ∧ f.toInt ≤ t.toInt ∧ t.toInt ≤ 2100) (σ 7 0 < 20) k) : Gd (t_persecution σ g a f t k) := by
  unfold t_persecution
  split
  case isFalse => exact hg
  case isTrue h0 =>
    subst h0
    obtain ⟨⟨h1, h2⟩, ⟨h3, h4, h5⟩, h6⟩ := h.zero
    have h1 := rg_xn (a := 0) (b := 3) h1
    have h2 := pL_xn h2
    have h3' := rg_xn (a := 1900) (b := 2100) h3
    have h5' : xn t ≤ 2100 := by unfold xn; omega
    obtain ⟨a1, a2, a3, a4, a5, a6, a7, a8, a9⟩ := hg
    have e7 : sup (sup (sup (sup (sup σ 6 (4 * σ 7 0) (xn g)) 6 (4 * σ 7 0 + 1) (xn a)) 6 (4 * σ 7 0 + 2) (xn f)) 6 (4 * σ 7 0 + 3) (xn t)) 7 0 (σ 7 0 + 1) 7 0 = σ 7 0 + 1 := sup_self _ _ _ _
    exact ⟨g_B (g_B (g_B (g_B (g_B a1 (by omega)) (by omega)) (by omega)) (by omega)) (by omega), ⟨a2.1, by rw [e7]; omega, a2.2.2⟩, a3, a4, a5, a6, a7, a8, a9⟩
theorem g_thing {σ : Sg} (hg : Gd σ) {mk sz : Int32} {k : Nat} (h : gk (rg mk 0 65535 ∧ rg sz 0 1000) (σ 12 0 < 10) True k) : Gd (t_thing σ mk sz k) := by
  unfold t_thing
  by_cases h0 : k = 0
  case neg => rw [if_neg h0]; exact hg
  case pos =>
    rw [if_pos h0]
    subst h0
    obtain ⟨⟨h1, h2⟩, h3, -⟩ := h.zero
    have h1 := rg_xn (a := 0) (b := 65535) h1
    have h2 := rg_xn (a := 0) (b := 1000) h2
    obtain ⟨a1, a2, a3, a4, a5, a6, a7, a8, a9⟩ := hg
    have b0 := g_B (r := 12) (p := 0) (v := σ 12 0 + 1) (g_B (r := 10) (p := σ 12 0) (v := xn sz) (g_B (r := 9) (p := σ 12 0) (v := xn mk) a1 (by omega)) (by omega)) (by omega)
    have e12 : sup (sup (sup σ 9 (σ 12 0) (xn mk)) 10 (σ 12 0) (xn sz)) 12 0 (σ 12 0 + 1) 12 0 = σ 12 0 + 1 := sup_self _ _ _ _
    have e10 : sup (sup (sup σ 9 (σ 12 0) (xn mk)) 10 (σ 12 0) (xn sz)) 12 0 (σ 12 0 + 1) 10 = sup (sup σ 9 (σ 12 0) (xn mk)) 10 (σ 12 0) (xn sz) 10 := sup_row _ _ _ (by decide)
    have e10' : ∀ i, i ≠ σ 12 0 → sup (sup σ 9 (σ 12 0) (xn mk)) 10 (σ 12 0) (xn sz) 10 i = σ 10 i := fun i hi => (sup_ne _ (fun hz => hi hz.2)).trans (congrFun (sup_row _ _ _ (by decide)) i)
    have e10n : sup (sup σ 9 (σ 12 0) (xn mk)) 10 (σ 12 0) (xn sz) 10 (σ 12 0) = xn sz := sup_self _ _ _ _
    generalize sup (sup σ 9 (σ 12 0) (xn mk)) 10 (σ 12 0) (xn sz) 10 = s10 at e10 e10' e10n
    generalize hS : sup (sup (sup σ 9 (σ 12 0) (xn mk)) 10 (σ 12 0) (xn sz)) 12 0 (σ 12 0 + 1) = S at b0 e12 e10 ⊢
    have e0 : S 0 = σ 0 := by rw [← hS]; rw [sup_row _ _ _ (by decide)]; rw [sup_row _ _ _ (by decide)]; rw [sup_row _ _ _ (by decide)]
    have e1 : S 1 = σ 1 := by rw [← hS]; rw [sup_row _ _ _ (by decide)]; rw [sup_row _ _ _ (by decide)]; rw [sup_row _ _ _ (by decide)]
    have e2 : S 2 = σ 2 := by rw [← hS]; rw [sup_row _ _ _ (by decide)]; rw [sup_row _ _ _ (by decide)]; rw [sup_row _ _ _ (by decide)]
    have e3 : S 3 = σ 3 := by rw [← hS]; rw [sup_row _ _ _ (by decide)]; rw [sup_row _ _ _ (by decide)]; rw [sup_row _ _ _ (by decide)]
    have e4 : S 4 = σ 4 := by rw [← hS]; rw [sup_row _ _ _ (by decide)]; rw [sup_row _ _ _ (by decide)]; rw [sup_row _ _ _ (by decide)]
    have e5 : S 5 = σ 5 := by rw [← hS]; rw [sup_row _ _ _ (by decide)]; rw [sup_row _ _ _ (by decide)]; rw [sup_row _ _ _ (by decide)]
    have e7 : S 7 = σ 7 := by rw [← hS]; rw [sup_row _ _ _ (by decide)]; rw [sup_row _ _ _ (by decide)]; rw [sup_row _ _ _ (by decide)]
    have e8 : S 8 = σ 8 := by rw [← hS]; rw [sup_row _ _ _ (by decide)]; rw [sup_row _ _ _ (by decide)]; rw [sup_row _ _ _ (by decide)]
    have e11 : S 11 = σ 11 := by rw [← hS]; rw [sup_row _ _ _ (by decide)]; rw [sup_row _ _ _ (by decide)]; rw [sup_row _ _ _ (by decide)]
    have e13 : S 13 = σ 13 := by rw [← hS]; rw [sup_row _ _ _ (by decide)]; rw [sup_row _ _ _ (by decide)]; rw [sup_row _ _ _ (by decide)]
    have e14 : S 14 = σ 14 := by rw [← hS]; rw [sup_row _ _ _ (by decide)]; rw [sup_row _ _ _ (by decide)]; rw [sup_row _ _ _ (by decide)]
    have e15 : S 15 = σ 15 := by rw [← hS]; rw [sup_row _ _ _ (by decide)]; rw [sup_row _ _ _ (by decide)]; rw [sup_row _ _ _ (by decide)]
    have e16 : S 16 = σ 16 := by rw [← hS]; rw [sup_row _ _ _ (by decide)]; rw [sup_row _ _ _ (by decide)]; rw [sup_row _ _ _ (by decide)]
    have e17 : S 17 = σ 17 := by rw [← hS]; rw [sup_row _ _ _ (by decide)]; rw [sup_row _ _ _ (by decide)]; rw [sup_row _ _ _ (by decide)]
    have e18 : S 18 = σ 18 := by rw [← hS]; rw [sup_row _ _ _ (by decide)]; rw [sup_row _ _ _ (by decide)]; rw [sup_row _ _ _ (by decide)]
    unfold Gd
    rw [e0, e1, e2, e3, e4, e5, e7, e8, e10, e11, e12, e13, e14, e15, e16, e17, e18]
    refine ⟨b0, ⟨a2.1, a2.2.1, by omega, a2.2.2.2⟩, a3, a4, fun i hi => ?_, fun i hi => a6 i (by omega), a7, a8, a9⟩
    by_cases hq : i = σ 12 0
    · subst hq
      have h6 := a6 (σ 12 0) (Nat.le_refl _)
      refine ⟨?_, ?_, fun q hq => ?_⟩
      · rw [e10n]; omega
      · omega
      · exact absurd hq (by omega)
    · obtain ⟨b1, b2⟩ := a5 i (by omega)
      refine ⟨?_, b2⟩
      rw [e10' i hq]; exact b1
theorem g_heir {σ : Sg} (hg : Gd σ) {x y : Int32} {k : Nat} (h4 : k = 0 → σ 4 (xn x) < 11) (h : gk (pP σ x ∧ pP σ y) (¬ x.toInt = y.toInt) (¬ hH σ (xn x) (xn y)) k) : Gd (t_heir σ x y k) := by
  unfold t_heir
  split
  case isFalse => exact hg
  case isTrue h0 =>
    subst h0
    obtain ⟨⟨h1, h2⟩, h3, hnh⟩ := h.zero
    have hxy : xn y ≠ xn x := by unfold pP at h1 h2; unfold xn; omega
    have h1 := pP_xn h1
    have h2 := pP_xn h2
    have h4 := h4 rfl
    have hm := hg.hm
    obtain ⟨a1, a2, a3, a4, a5, a6, a7, a8, a9⟩ := hg
    have e4 : ∀ i, sup (sup σ 3 (12 * xn x + σ 4 (xn x)) (xn y)) 4 (xn x) (σ 4 (xn x) + 1) 4 i = if i = xn x then σ 4 (xn x) + 1 else σ 4 i := by
      intro i
      by_cases hi : i = xn x
      · rw [if_pos hi, hi, sup_self]
      · rw [if_neg hi, sup_ne _ (by omega)]; rfl
    have e3 : ∀ q, sup (sup σ 3 (12 * xn x + σ 4 (xn x)) (xn y)) 4 (xn x) (σ 4 (xn x) + 1) 3 q = if q = 12 * xn x + σ 4 (xn x) then xn y else σ 3 q := by
      intro q
      show sup σ 3 (12 * xn x + σ 4 (xn x)) (xn y) 3 q = _
      by_cases hi : q = 12 * xn x + σ 4 (xn x)
      · rw [if_pos hi, hi, sup_self]
      · rw [if_neg hi, sup_ne _ (by omega)]
    refine ⟨g_B (g_B a1 (by omega)) (by omega), a2, fun i hi => ?_, fun i hi => ⟨(a4 i hi).1, ?_⟩, a5, a6, a7, a8, a9⟩
    · have hi : i < σ 5 0 := hi
      obtain ⟨b1, b2, b3, b4, b5⟩ := a3 i hi
      refine ⟨b1, b2, ?_, fun q hq => ?_, fun q q' hq hq' he => ?_⟩
      · rw [e4]; split <;> omega
      · rw [e4] at hq
        rw [e3]
        by_cases hix : i = xn x
        · rw [if_pos hix] at hq
          by_cases hql : q = σ 4 (xn x)
          · rw [if_pos (by omega)]; exact ⟨h2, by omega⟩
          · rw [if_neg (by omega)]; exact b4 q (by rw [hix]; omega)
        · rw [if_neg hix] at hq
          rw [if_neg (by omega)]; exact b4 q hq
      · rw [e4] at hq hq'
        rw [e3, e3] at he
        by_cases hix : i = xn x
        · subst hix
          rw [if_pos rfl] at hq hq'
          by_cases hql : q = σ 4 (xn x) <;> by_cases hql' : q' = σ 4 (xn x)
          · omega
          · rw [if_pos (by omega), if_neg (by omega)] at he
            exact absurd ⟨q', by omega, he.symm⟩ hnh
          · rw [if_neg (by omega), if_pos (by omega)] at he
            exact absurd ⟨q, by omega, he⟩ hnh
          · rw [if_neg (by omega), if_neg (by omega)] at he
            exact b5 q q' (by omega) (by omega) he
        · rw [if_neg hix] at hq hq'
          rw [if_neg (by omega), if_neg (by omega)] at he
          exact b5 q q' hq hq' he
    · rw [e4, if_neg (by have hi : σ 5 0 ≤ i := hi; omega)]
      exact (a4 i hi).2
theorem g_station {σ : Sg} (hg : Gd σ) {t q kd a y : Int32} {k : Nat} (h : gk (pT σ t ∧ pP σ q ∧ pL a) (rg kd 0 5 ∧ 1900 ≤ y.toInt ∧ y.toInt ≤ σ 0 0) (σ 11 (xn t) < 8) k) : Gd (t_station σ t q kd a y k) := by
  unfold t_station
  by_cases h0 : k = 0
  case neg => rw [if_neg h0]; exact hg
  case pos =>
    rw [if_pos h0]
    subst h0
    obtain ⟨⟨h1, h2, h3⟩, ⟨h4, h5, h5'⟩, h6⟩ := h.zero
    have h1 := pT_xn h1
    have h2 := pP_xn h2
    have h3 := pL_xn h3
    have h4 := rg_xn (a := 0) (b := 5) h4
    have hy : 1900 ≤ xn y ∧ xn y ≤ σ 0 0 := by unfold xn; omega
    have hs8 := hg.hs8
    obtain ⟨a1, a2, a3, a4, a5, a6, a7, a8, a9⟩ := hg
    generalize xn t = T at h1 h6 ⊢
    generalize hJ : 8 * T + σ 11 T = J
    have e11 : ∀ i, sup (sup (sup (sup (sup σ 13 J (xn q)) 14 J (xn kd)) 15 J (xn a)) 16 J (xn y)) 11 T (σ 11 T + 1) 11 i = if i = T then σ 11 T + 1 else σ 11 i := by
      intro i
      by_cases hi : i = T
      · rw [if_pos hi, hi, sup_self]
      · rw [if_neg hi, sup_ne _ (by omega)]; rfl
    have b0 := g_B (r := 11) (p := T) (v := σ 11 T + 1) (g_B (r := 16) (p := J) (v := xn y) (g_B (r := 15) (p := J) (v := xn a) (g_B (r := 14) (p := J) (v := xn kd) (g_B (r := 13) (p := J) (v := xn q) a1 (by omega)) (by omega)) (by omega)) (by omega)) (by omega)
    have c13 : ∀ i, sup (sup (sup (sup (sup σ 13 J (xn q)) 14 J (xn kd)) 15 J (xn a)) 16 J (xn y)) 11 T (σ 11 T + 1) 13 i = if i = J then xn q else σ 13 i := by
      intro i
      by_cases hi : i = J
      · rw [if_pos hi, hi]; rw [sup_ne _ (by omega)]; rw [sup_ne _ (by omega)]; rw [sup_ne _ (by omega)]; rw [sup_ne _ (by omega)]; rw [sup_self]
      · rw [if_neg hi]; repeat (rw [sup_ne _ (by omega)])
    have c14 : ∀ i, sup (sup (sup (sup (sup σ 13 J (xn q)) 14 J (xn kd)) 15 J (xn a)) 16 J (xn y)) 11 T (σ 11 T + 1) 14 i = if i = J then xn kd else σ 14 i := by
      intro i
      by_cases hi : i = J
      · rw [if_pos hi, hi]; rw [sup_ne _ (by omega)]; rw [sup_ne _ (by omega)]; rw [sup_ne _ (by omega)]; rw [sup_self]
      · rw [if_neg hi]; repeat (rw [sup_ne _ (by omega)])
    have c15 : ∀ i, sup (sup (sup (sup (sup σ 13 J (xn q)) 14 J (xn kd)) 15 J (xn a)) 16 J (xn y)) 11 T (σ 11 T + 1) 15 i = if i = J then xn a else σ 15 i := by
      intro i
      by_cases hi : i = J
      · rw [if_pos hi, hi]; rw [sup_ne _ (by omega)]; rw [sup_ne _ (by omega)]; rw [sup_self]
      · rw [if_neg hi]; repeat (rw [sup_ne _ (by omega)])
    have c16 : ∀ i, sup (sup (sup (sup (sup σ 13 J (xn q)) 14 J (xn kd)) 15 J (xn a)) 16 J (xn y)) 11 T (σ 11 T + 1) 16 i = if i = J then xn y else σ 16 i := by
      intro i
      by_cases hi : i = J
      · rw [if_pos hi, hi]; rw [sup_ne _ (by omega)]; rw [sup_self]
      · rw [if_neg hi]; repeat (rw [sup_ne _ (by omega)])
    generalize hS : sup (sup (sup (sup (sup σ 13 J (xn q)) 14 J (xn kd)) 15 J (xn a)) 16 J (xn y)) 11 T (σ 11 T + 1) = S at b0 e11 c13 c14 c15 c16 ⊢
    have e0 : S 0 = σ 0 := by rw [← hS]; rw [sup_row _ _ _ (by decide)]; rw [sup_row _ _ _ (by decide)]; rw [sup_row _ _ _ (by decide)]; rw [sup_row _ _ _ (by decide)]; rw [sup_row _ _ _ (by decide)]
    have e1 : S 1 = σ 1 := by rw [← hS]; rw [sup_row _ _ _ (by decide)]; rw [sup_row _ _ _ (by decide)]; rw [sup_row _ _ _ (by decide)]; rw [sup_row _ _ _ (by decide)]; rw [sup_row _ _ _ (by decide)]
    have e2 : S 2 = σ 2 := by rw [← hS]; rw [sup_row _ _ _ (by decide)]; rw [sup_row _ _ _ (by decide)]; rw [sup_row _ _ _ (by decide)]; rw [sup_row _ _ _ (by decide)]; rw [sup_row _ _ _ (by decide)]
    have e3 : S 3 = σ 3 := by rw [← hS]; rw [sup_row _ _ _ (by decide)]; rw [sup_row _ _ _ (by decide)]; rw [sup_row _ _ _ (by decide)]; rw [sup_row _ _ _ (by decide)]; rw [sup_row _ _ _ (by decide)]
    have e4 : S 4 = σ 4 := by rw [← hS]; rw [sup_row _ _ _ (by decide)]; rw [sup_row _ _ _ (by decide)]; rw [sup_row _ _ _ (by decide)]; rw [sup_row _ _ _ (by decide)]; rw [sup_row _ _ _ (by decide)]
    have e5 : S 5 = σ 5 := by rw [← hS]; rw [sup_row _ _ _ (by decide)]; rw [sup_row _ _ _ (by decide)]; rw [sup_row _ _ _ (by decide)]; rw [sup_row _ _ _ (by decide)]; rw [sup_row _ _ _ (by decide)]
    have e7 : S 7 = σ 7 := by rw [← hS]; rw [sup_row _ _ _ (by decide)]; rw [sup_row _ _ _ (by decide)]; rw [sup_row _ _ _ (by decide)]; rw [sup_row _ _ _ (by decide)]; rw [sup_row _ _ _ (by decide)]
    have e8 : S 8 = σ 8 := by rw [← hS]; rw [sup_row _ _ _ (by decide)]; rw [sup_row _ _ _ (by decide)]; rw [sup_row _ _ _ (by decide)]; rw [sup_row _ _ _ (by decide)]; rw [sup_row _ _ _ (by decide)]
    have e10 : S 10 = σ 10 := by rw [← hS]; rw [sup_row _ _ _ (by decide)]; rw [sup_row _ _ _ (by decide)]; rw [sup_row _ _ _ (by decide)]; rw [sup_row _ _ _ (by decide)]; rw [sup_row _ _ _ (by decide)]
    have e12 : S 12 = σ 12 := by rw [← hS]; rw [sup_row _ _ _ (by decide)]; rw [sup_row _ _ _ (by decide)]; rw [sup_row _ _ _ (by decide)]; rw [sup_row _ _ _ (by decide)]; rw [sup_row _ _ _ (by decide)]
    have e17 : S 17 = σ 17 := by rw [← hS]; rw [sup_row _ _ _ (by decide)]; rw [sup_row _ _ _ (by decide)]; rw [sup_row _ _ _ (by decide)]; rw [sup_row _ _ _ (by decide)]; rw [sup_row _ _ _ (by decide)]
    have e18 : S 18 = σ 18 := by rw [← hS]; rw [sup_row _ _ _ (by decide)]; rw [sup_row _ _ _ (by decide)]; rw [sup_row _ _ _ (by decide)]; rw [sup_row _ _ _ (by decide)]; rw [sup_row _ _ _ (by decide)]
    unfold Gd
    rw [e0, e1, e2, e3, e4, e5, e7, e8, e10, e12, e17, e18]
    refine ⟨b0, a2, a3, a4, fun i hi => ?_, fun i hi => ?_, fun i r hi hr => ?_, a8, fun i => ?_⟩
    · obtain ⟨b1, b2, b3⟩ := a5 i hi
      refine ⟨b1, by rw [e11]; split <;> omega, fun r hr => ?_⟩
      rw [e11] at hr
      rw [c13, c14, c15, c16]
      have h8 := hs8 i
      by_cases hJr : 8 * i + r = J
      · have hiT : i = T ∧ r = σ 11 T := by split at hr <;> omega
        obtain ⟨rfl, rfl⟩ := hiT
        rw [if_pos hJr, if_pos hJr, if_pos hJr, if_pos hJr]
        have z := a7 i (σ 11 i) (Nat.le_refl _) (by omega)
        exact ⟨h2, by omega, h3, hy.1, hy.2, by omega, by omega⟩
      · rw [if_neg hJr, if_neg hJr, if_neg hJr, if_neg hJr]
        have hr' : r < σ 11 i := by
          split at hr
          · rename_i hiT; subst hiT; omega
          · exact hr
        exact b3 r hr'
    · rw [e11, if_neg (by omega)]
      exact a6 i hi
    · rw [e11] at hi
      refine a7 i r ?_ hr
      split at hi
      · rename_i hiT; subst hiT; omega
      · exact hi
    · rw [c14]
      split
      · omega
      · exact a9 i
