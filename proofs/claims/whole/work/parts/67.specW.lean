/-! SPECS W: lasts -/
theorem f194_lp {d r b : Nat} {A : AT} {μ0 : SMem} (hm : MA μ0) (hw : WF A) (hr : r < rcA A) (hb : b < bcA A) : ∀ m i (μ : SMem) (S : Nat → Nat), i + m = 30 → SB (fun c => c = 70) μ0 μ → MQr (gi μ 70) A S → ∃ μ', rn (d + 5) 194 11 [some (Sum.inr (Sum.inl (69))), some (Sum.inl (E r)), some (Sum.inl (E b)), some (Sum.inl (E i))] [] μ = rn (d + 5) 194 21 [some (Sum.inr (Sum.inl (69))), some (Sum.inl (E r)), some (Sum.inl (E b)), some (Sum.inl (E (i + lsc (kdA A r) (fgA A r) (pgA A b) (ndA A b) (S b) m)))] [] μ' ∧ SB (fun c => c = 70) μ0 μ' := by
  intro m
  induction m with
  | zero =>
    intro i μ S hi hs hM
    have : i = 30 := by omega
    subst this
    refine ⟨μ, ?_, hs⟩
    rw [st194_11]
    simp only [st194_12, st194_13, show (30 : Int32) ≤ E 30 from by decide, if_true]
    rfl
  | succ m ih =>
    intro i μ S hi hs hM
    have hc : ¬ (30 : Int32) ≤ E i := by rw [show (30 : Int32) = E 30 from rfl, E_le (by decide) (by omega)]; omega
    obtain ⟨μ1, z1, z2, z3⟩ := f162m (d := d) (hm.sb hs) hw hM hr hb
    have hm1 := (hm.sb hs).1
    have hf := (hw.2.2.2.2 r hr).2
    have hle : (E (wrS A S r b) ≤ 0) = (wrS A S r b = 0) := by
      rw [E_0, E_leE (by have := wor_lt (k := kdA A r) (pg := pgA A b) (nd := ndA A b) (S := S b) hf; unfold wrS; omega) (by decide), eq_iff_iff]
      omega
    rw [lsc_s (S b) m]
    by_cases w : wrS A S r b = 0
    · refine ⟨μ1, ?_, hs.tr z2⟩
      rw [st194_11]
      simp only [st194_12, st194_13, st194_14, st194_15, st194_16, st194_17, st194_18, st194_19, st194_20, hc, hm1, z1, w, show (E 0 ≤ 0) = True from eq_true (by decide), aft_some, Option.toList_some, Option.toList_none, List.cons_append, List.nil_append, br0, br1, br2, br3, zr01, zr02, n10, n01, ne_eq, not_true_eq_false, not_false_eq_true, if_true, if_false, true_and, and_true, and_self]
      have w' : wor (kdA A r) (fgA A r) (pgA A b) (ndA A b) (S b) = 0 := w
      rw [if_pos w']
      rfl
    · obtain ⟨μ', y1, y2⟩ := ih (i + 1) μ1 (rdS A S r b) (by omega) (hs.tr z2) z3
      refine ⟨μ', ?_, y2⟩
      have w' : ¬ wor (kdA A r) (fgA A r) (pgA A b) (ndA A b) (S b) = 0 := w
      have e9 : rdS A S r b b = lft (kdA A r) (fgA A r) (pgA A b) (ndA A b) (S b) := by unfold rdS up1; rw [if_pos rfl]
      rw [e9] at y1
      rw [st194_11]
      simp only [st194_12, st194_13, st194_14, st194_15, st194_16, st194_17, st194_18, st194_19, st194_20, hc, hm1, z1, hle, w, show E i + 1 = E (i + 1) from E_add i 1, aft_some, Option.toList_some, Option.toList_none, List.cons_append, List.nil_append, br0, br1, br2, br3, zr01, zr02, n10, n01, ne_eq, not_true_eq_false, not_false_eq_true, if_true, if_false, true_and, and_true, and_self]
      rw [y1, if_neg w', show i + 1 + lsc (kdA A r) (fgA A r) (pgA A b) (ndA A b) (lft (kdA A r) (fgA A r) (pgA A b) (ndA A b) (S b)) m = i + (lsc (kdA A r) (fgA A r) (pgA A b) (ndA A b) (lft (kdA A r) (fgA A r) (pgA A b) (ndA A b) (S b)) m + 1) by omega]
theorem g90 {d : Nat} {x y : Int32} {A Ai : AT} {im : Nat} {Hs : Nat → HT} {μ : SMem} (h : INVw μ A Ai im Hs) : ∃ v μ2, cl (d + 12) 90 [Sum.inr (Sum.inl (2)), Sum.inl (x), Sum.inl (y)] μ = some (Sum.inl (some (Sum.inl (v))), μ) ∧ cl (d + 12) 194 [Sum.inr (Sum.inl (69)), Sum.inl (x), Sum.inl (y)] μ = some (Sum.inl (some (Sum.inl (v))), μ2) ∧ INVw μ2 A Ai im Hs ∧ sz μ2 = sz μ ∧ sl μ2 = sl μ := by
  have hB := h.1
  obtain ⟨hm, hc, hw, ht, hr⟩ := hB
  have hq := hr.mq hw
  by_cases c1 : 0 ≤ x ∧ x < E (rcA A)
  · obtain ⟨r, hr1, rfl⟩ := E_of c1.1 c1.2 (by have := hw.2.1; omega)
    obtain ⟨r0, hrd⟩ := ht.2.2.2.2.2 r hr1
    have r9 : r < 1000 := by have := hw.2.1; omega
    by_cases c2 : 0 ≤ y ∧ y < E (bcA A)
    · obtain ⟨b, hb, rfl⟩ := E_of c2.1 c2.2 (by have := hw.1; omega)
      have b9 : b < 4 := by have := hw.1; omega
      have e0 : (3 + 3 + 3 * b = 0) = False := eq_false (by omega)
      have hbk := ht.bk b9
      obtain ⟨u1, u2, u3, u4⟩ := ht.2.2.2.2.1 b b9
      obtain ⟨a1, a2, a3, a4, _⟩ := hw.2.2.1 b hb
      obtain ⟨μa, b1, b2, b3⟩ := f183 (d := d + 10) hm
      have hqa : MQr (gi μa 70) A (inA A) := by rw [b2.2.2.2.2.2.2 70 (by omega)]; exact hq
      have hma := hm.sb b2
      obtain ⟨μb, l1, l2⟩ := f194_lp (d := d + 7) hma hw hr1 hb 30 0 μa (inA A) (by omega) SB.rf hqa
      obtain ⟨μc, d1, d2, d3⟩ := f184b (d := d + 10) h.1 b2 b3 l2
      rw [Nat.zero_add] at l1
      refine ⟨E (lsc (kdA A r) (fgA A r) (pgA A b) (ndA A b) (inA A b) 30), μc, ?_, ?_, h.up (d2.wk (fun c e => by unfold Scr; omega)) (fun c h => h) (by rw [d2.2.2.2.2.2.2 69 (by omega)]) d3, d2.2.2.2.2.1, d2.2.2.2.2.2.1⟩
      · show rn (d + 12) 90 0 [some (Sum.inr (Sum.inl (2))), some (Sum.inl (E r)), some (Sum.inl (E b)), none, none] [] μ = _
        have h126 := fun d => f126 (d := d) (N := 30) (by decide) (hw.in9 b) a2 a1 a4 hrd hbk
        simp only [show E 30 = (30 : Int32) from rfl] at h126
        simp only [st90_0, st90_1, st90_2, st90_3, st90_4, st90_5, st90_6, st90_7, st90_8, st90_9, st90_10, st90_11, st90_12, st90_13, st90_14, st90_15, st90_16, st90_17, st90_18, st90_19, st90_20, st90_21, st90_22, hc.1, hc.2.1, ht.1.1, f67 hw ht, f68 hw ht, c1, c2, E_n r9, E_n (show b < 1000 by omega), r0, e0, hbk.1.1, u2, h126, aft_some, Option.toList_some, Option.toList_none, List.cons_append, List.nil_append, br0, br1, br2, br3, zr01, zr02, n10, n01, ne_eq, not_true_eq_false, not_false_eq_true, if_true, if_false, true_and, and_true, and_self]
      · show rn (d + 12) 194 0 [some (Sum.inr (Sum.inl (69))), some (Sum.inl (E r)), some (Sum.inl (E b)), none] [] μ = _
        simp only [st194_0, st194_1, st194_2, st194_3, st194_4, st194_5, st194_6, st194_7, st194_8, st194_9, st194_10, hm.1, f176 hm hw hq, c1, c2, b1, aft_some, Option.toList_some, Option.toList_none, List.cons_append, List.nil_append, br0, br1, br2, br3, zr01, zr02, n10, n01, ne_eq, not_true_eq_false, not_false_eq_true, if_true, if_false, true_and, and_true, and_self]
        refine l1.trans ?_
        simp only [st194_21, st194_22, st194_23, st194_24, (hma.sb l2).1, d1, aft_some, Option.toList_some, Option.toList_none, List.cons_append, List.nil_append, br0, br1, br2, br3, zr01, zr02, n10, n01, ne_eq, not_true_eq_false, not_false_eq_true, if_true, if_false, true_and, and_true, and_self]
    · refine ⟨-1, μ, ?_, ?_, h, rfl, rfl⟩
      · show rn (d + 12) 90 0 [some (Sum.inr (Sum.inl (2))), some (Sum.inl (E r)), some (Sum.inl (y)), none, none] [] μ = _
        simp only [st90_0, st90_1, st90_2, st90_3, st90_4, st90_5, st90_6, st90_7, st90_8, st90_9, st90_10, st90_11, st90_12, st90_13, st90_14, st90_15, st90_16, st90_17, st90_18, st90_19, st90_20, st90_21, st90_22, hc.1, hc.2.1, ht.1.1, f67 hw ht, f68 hw ht, c1, c2, E_n r9, r0, aft_some, Option.toList_some, Option.toList_none, List.cons_append, List.nil_append, br0, br1, br2, br3, zr01, zr02, n10, n01, ne_eq, not_true_eq_false, not_false_eq_true, if_true, if_false, true_and, and_true, and_self]
      · show rn (d + 12) 194 0 [some (Sum.inr (Sum.inl (69))), some (Sum.inl (E r)), some (Sum.inl (y)), none] [] μ = _
        simp only [st194_0, st194_1, st194_2, st194_3, st194_4, st194_5, st194_6, st194_7, st194_8, st194_9, st194_10, hm.1, f176 hm hw hq, c1, c2, and_false, aft_some, Option.toList_some, Option.toList_none, List.cons_append, List.nil_append, br0, br1, br2, br3, zr01, zr02, n10, n01, ne_eq, not_true_eq_false, not_false_eq_true, if_true, if_false, true_and, and_true, and_self]
  · refine ⟨-1, μ, ?_, ?_, h, rfl, rfl⟩
    · show rn (d + 12) 90 0 [some (Sum.inr (Sum.inl (2))), some (Sum.inl (x)), some (Sum.inl (y)), none, none] [] μ = _
      simp only [st90_0, st90_1, st90_2, st90_3, st90_4, st90_5, st90_6, st90_7, st90_8, st90_9, st90_10, st90_11, st90_12, st90_13, st90_14, st90_15, st90_16, st90_17, st90_18, st90_19, st90_20, st90_21, st90_22, hc.1, hc.2.1, ht.1.1, f67 hw ht, f68 hw ht, c1, aft_some, Option.toList_some, Option.toList_none, List.cons_append, List.nil_append, br0, br1, br2, br3, zr01, zr02, n10, n01, ne_eq, not_true_eq_false, not_false_eq_true, if_true, if_false, true_and, and_true, and_self]
    · show rn (d + 12) 194 0 [some (Sum.inr (Sum.inl (69))), some (Sum.inl (x)), some (Sum.inl (y)), none] [] μ = _
      simp only [st194_0, st194_1, st194_2, st194_3, st194_4, st194_5, st194_6, st194_7, st194_8, st194_9, st194_10, hm.1, f176 hm hw hq, c1, false_and, aft_some, Option.toList_some, Option.toList_none, List.cons_append, List.nil_append, br0, br1, br2, br3, zr01, zr02, n10, n01, ne_eq, not_true_eq_false, not_false_eq_true, if_true, if_false, true_and, and_true, and_self]
