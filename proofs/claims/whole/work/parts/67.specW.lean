/-! SPECS W: lasts -/
theorem f194_lp {d r b : Nat} {A : AT} {μ0 : SMem} (hm : MA μ0) (hw : WF A) (hr : r < rcA A) (hb : b < bcA A) : ∀ m i (μ : SMem) (S : Nat → Nat), i + m = 30 → SB (fun c => c = 70) μ0 μ → MQr (gi μ 70) A S → ∃ μ', rn (d + 5) 194 11 [some (Sum.inr (Sum.inl (69))), some (Sum.inl (E r)), some (Sum.inl (E b)), some (Sum.inl (E i))] [] μ = rn (d + 5) 194 21 [some (Sum.inr (Sum.inl (69))), some (Sum.inl (E r)), some (Sum.inl (E b)), some (Sum.inl (E (i + lsc (kdA A r) (fgA A r) (pgA A b) (ndA A b) (S b) m)))] [] μ' ∧ SB (fun c => c = 70) μ0 μ' := by
  intro m
  induction m with
  | zero =>
    intro i μ S hi hs hM
    have : i = 30 := by omega
    subst this
    refine ⟨μ, ?_, hs⟩
    rw [st194_11]
    simp only [st194_12, st194_13, show (30 : Int32) ≤ E 30 from by decide, if_true]
    rfl
  | succ m ih =>
    intro i μ S hi hs hM
    have hc : ¬ (30 : Int32) ≤ E i := by rw [show (30 : Int32) = E 30 from rfl, E_le (by decide) (by omega)]; omega
    obtain ⟨μ1, z1, z2, z3⟩ := f162m (d := d) (hm.sb hs) hw hM hr hb
    have hm1 := (hm.sb hs).1
    have hf := (hw.2.2.2.2 r hr).2
    have hle : (E (wrS A S r b) ≤ 0) = (wrS A S r b = 0) := by
      rw [E_0, E_leE (by have := wor_lt (k := kdA A r) (pg := pgA A b) (nd := ndA A b) (S := S b) hf; unfold wrS; omega) (by decide), eq_iff_iff]
      omega
    rw [lsc_s (S b) m]
    by_cases w : wrS A S r b = 0
    · refine ⟨μ1, ?_, hs.tr z2⟩
      rw [st194_11]
      simp only [st194_12, st194_13, st194_14, st194_15, st194_16, st194_17, st194_18, st194_19, st194_20, hc, hm1, z1, hle, w, aft_some, Option.toList_some, Option.toList_none, List.cons_append, List.nil_append, br0, br1, br2, br3, zr01, zr02, n10, n01, ne_eq, not_true_eq_false, not_false_eq_true, if_true, if_false, true_and, and_true, and_self]
      have w' : wor (kdA A r) (fgA A r) (pgA A b) (ndA A b) (S b) = 0 := w
      rw [if_pos w', Nat.add_zero]
    · obtain ⟨μ', y1, y2⟩ := ih (i + 1) μ1 (rdS A S r b) (by omega) (hs.tr z2) z3
      refine ⟨μ', ?_, y2⟩
      have w' : ¬ wor (kdA A r) (fgA A r) (pgA A b) (ndA A b) (S b) = 0 := w
      have e9 : rdS A S r b b = lft (kdA A r) (fgA A r) (pgA A b) (ndA A b) (S b) := by unfold rdS up1; rw [if_pos rfl]
      rw [e9] at y1
      rw [st194_11]
      simp only [st194_12, st194_13, st194_14, st194_15, st194_16, st194_17, st194_18, st194_19, st194_20, hc, hm1, z1, hle, w, show E i + 1 = E (i + 1) from E_add i 1, aft_some, Option.toList_some, Option.toList_none, List.cons_append, List.nil_append, br0, br1, br2, br3, zr01, zr02, n10, n01, ne_eq, not_true_eq_false, not_false_eq_true, if_true, if_false, true_and, and_true, and_self]
      rw [y1, if_neg w', show i + 1 + lsc (kdA A r) (fgA A r) (pgA A b) (ndA A b) (lft (kdA A r) (fgA A r) (pgA A b) (ndA A b) (S b)) m = i + (lsc (kdA A r) (fgA A r) (pgA A b) (ndA A b) (lft (kdA A r) (fgA A r) (pgA A b) (ndA A b) (S b)) m + 1) by omega]
