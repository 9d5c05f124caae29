/-! THE LAW'S START -/
theorem la_AO {args : Array Value} {s : State} {C : String} (h : (Cond.arrayOver (.object C)).before args s = true) : ∃ cA, ArrOfT s cA (.object C) ∧ va_RA s cA (.object C) := by
  obtain ⟨comp, c, k, h1, h2, h3, h4, h5⟩ := Cond.arrayOver_spec h
  exact ⟨c, fun n z => ⟨(fun k h => by cases h), k, h3, comp, h4⟩, k, comp, h3, h4, h1, h5⟩
theorem la_AC {args : Array Value} {s : State} {ty : FieldType} (h : (Cond.arrayClass ty).before args s = true) : ∃ cA, ArrOfT s cA ty ∧ s.vm.findClass ("[" ++ ty.toString) = some cA := by
  obtain ⟨c, k, comp, h1, h2, h3⟩ := Cond.arrayClass_spec h
  exact ⟨c, fun n z => ⟨(fun k h => by cases h), k, h2, comp, h3⟩, h1⟩
theorem la_K {args : Array Value} {s : State} (hts : ∀ w ∈ lw_tbl, w.before args s = true) : ∃ D : xD, va_K D.1 vwCl (xtys D) s := by
  obtain ⟨c0, i0, k0⟩ := u_known hts inX0 (hts (.instantiable RX0 4) (by decide +kernel))
  obtain ⟨c1, i1, k1⟩ := u_known hts inX1 (hts (.instantiable RX1 6) (by decide +kernel))
  obtain ⟨c2, i2, k2⟩ := u_known hts inX2 (hts (.instantiable RX2 9) (by decide +kernel))
  obtain ⟨c3, i3, k3⟩ := u_known hts inX3 (hts (.instantiable RX3 6) (by decide +kernel))
  obtain ⟨c4, i4, k4⟩ := u_known hts inX4 (hts (.instantiable RX4 8) (by decide +kernel))
  obtain ⟨a0, p0, q0⟩ := la_AO (hts (.arrayOver (.object "Restitutory$Person")) (by decide +kernel))
  obtain ⟨a1, p1, q1⟩ := la_AO (hts (.arrayOver (.object "Restitutory$Persecution")) (by decide +kernel))
  obtain ⟨a2, p2, q2⟩ := la_AO (hts (.arrayOver (.object "Restitutory$Thing")) (by decide +kernel))
  obtain ⟨a3, p3, q3⟩ := la_AO (hts (.arrayOver (.object "Restitutory$Station")) (by decide +kernel))
  obtain ⟨a4, p4, q4⟩ := la_AC (hts (.arrayClass .int) (by decide +kernel))
  obtain ⟨a6, p6, q6⟩ := la_AC (hts (.arrayClass .long) (by decide +kernel))
  refine ⟨((fun c => match c with | 0 => c0 | 1 => c1 | 2 => c2 | 3 => c3 | _ => c4, fun c => match c with | 0 => i0 | 1 => i1 | 2 => i2 | 3 => i3 | _ => i4), fun t => match t with | 0 => a0 | 1 => a1 | 2 => a2 | 3 => a3 | 4 => a4 | 5 => a4 | _ => a6), fun c q hq => ?_, fun k q hk => ?_⟩
  · rcases c with _ | _ | _ | _ | _ | c
    · cases hq; exact k0
    · cases hq; exact k1
    · cases hq; exact k2
    · cases hq; exact k3
    · cases hq; exact k4
    · cases hq
  · rcases k with _ | _ | _ | _ | _ | _ | _ | k
    · cases hk; exact ⟨p0, q0⟩
    · cases hk; exact ⟨p1, q1⟩
    · cases hk; exact ⟨p2, q2⟩
    · cases hk; exact ⟨p3, q3⟩
    · cases hk; exact ⟨p4, q4⟩
    · cases hk; exact ⟨p4, q4⟩
    · cases hk; exact ⟨p6, q6⟩
    · cases hk
theorem la_str1 : ∀ q ∈ xStrs, Cond.stringRef RX4 q.1 q.2 ∈ lw_tbl := by decide +kernel
theorem la_str2 : ∀ q ∈ xStrs, ∀ q' ∈ xStrs, q.1 = q'.1 → q = q' := by decide +kernel
theorem la_cast : ∀ E ∈ xExc, Cond.castable E E ∈ lw_tbl := by decide +kernel
theorem la_dec : ∀ y ∈ xDec, Cond.declares (Bundle.initS y) ∈ lw_tbl := by decide +kernel
theorem la_arr : ∀ C ∈ xArrs, Cond.arrayOver (.object C) ∈ lw_tbl := by decide +kernel
theorem la_sa {args : Array Value} {s : State} (hts : ∀ w ∈ lw_tbl, w.before args s = true) {cR : ClassId} (hR : s.vm.findClass RX4 = some cR) : ∃ sa : Nat → Nat, ∀ q ∈ xStrs, vk_R RX4 q.1 q.2 (sa q.1) s := by
  have hex : ∀ q ∈ xStrs, ∃ a, vk_R RX4 q.1 q.2 a s := fun q hq => by
    have h1 := hts _ (la_str1 q hq)
    obtain ⟨k, cf, i, a, h2, h3, h4, h5, h6, h7⟩ := Cond.stringRef_spec hR h1
    exact ⟨a, h1, h7⟩
  have h1 : ∀ n, ∃ a, ∀ q ∈ xStrs, q.1 = n → vk_R RX4 q.1 q.2 a s := by
    intro n
    by_cases h : ∃ q ∈ xStrs, q.1 = n
    · obtain ⟨q, hq, rfl⟩ := h
      obtain ⟨a, ha⟩ := hex q hq
      exact ⟨a, fun q' hq' he => by have h9 := la_str2 q' hq' q hq he; subst h9; exact ha⟩
    · exact ⟨0, fun q hq he => absurd ⟨q, hq, he⟩ h⟩
  exact ⟨fun n => (h1 n).choose, fun q hq => (h1 q.1).choose_spec q hq rfl⟩
