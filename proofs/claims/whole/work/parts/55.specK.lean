/-! SPECS K: calls that change nothing, class and reference alike -/
def Both (μ : SMem) (A : AT) : Prop := MA μ ∧ CAo μ ∧ WF A ∧ TwC μ 3 A ∧ MRw (gi μ 70) A
theorem en21' : ((2 : Int32) = 1) = False := eq_false (by decide)
theorem en20' : ((2 : Int32) = 0) = False := eq_false (by decide)
theorem en12' : ((1 : Int32) = 2) = False := eq_false (by decide)
theorem en02' : ((0 : Int32) = 2) = False := eq_false (by decide)
theorem in012 {y : Int32} : (0 ≤ y ∧ y ≤ 2) ↔ (y = 0 ∨ y = 1 ∨ y = 2) := by
  refine ⟨fun h => ?_, fun h => ?_⟩
  · obtain ⟨p, hp, rfl⟩ := E_of (n := 3) h.1 (by
      have a := Int32.le_iff_toInt_le.mp h.2
      have b : (2 : Int32).toInt = 2 := rfl
      rw [Int32.lt_iff_toInt_lt, E_toInt (by decide)]
      omega) (by decide)
    have : ∀ p, p < 3 → (E p = 0 ∨ E p = 1 ∨ E p = 2) := by decide
    exact this p hp
  · rcases h with rfl | rfl | rfl <;> decide
theorem g79 {d : Nat} {x y : Int32} {A : AT} {μ : SMem} (h : Both μ A) : ∃ v, cl (d + 12) 79 [Sum.inr (Sum.inl (2)), Sum.inl (x), Sum.inl (y)] μ = some (Sum.inl (some (Sum.inl (v))), μ) ∧ cl (d + 12) 170 [Sum.inr (Sum.inl (69)), Sum.inl (x), Sum.inl (y)] μ = some (Sum.inl (some (Sum.inl (v))), μ) := by
  obtain ⟨hm, hc, hw, ht, hr⟩ := h
  have w1 := hw.1
  by_cases c : 0 ≤ x ∧ x < E (bcA A)
  · obtain ⟨b, hb, rfl⟩ := E_of c.1 c.2 (by omega)
    have e0 : (3 + 3 + 3 * b = 0) = False := eq_false (by omega)
    have hbk := ht.bk (show b < 4 by omega)
    obtain ⟨u1, u2, u3, u4⟩ := ht.2.2.2.2.1 b (by omega)
    obtain ⟨v1, v2, v3, v4⟩ := hr.2.2.2.1 b hb
    have hS := hw.in9 b
    by_cases y0 : y = 0
    · subst y0
      refine ⟨E (pgA A b), ?_, ?_⟩
      · show rn (d + 12) 79 0 [some (Sum.inr (Sum.inl (2))), some (Sum.inl (E b)), some (Sum.inl (0)), none] [] μ = _
        simp only [st79_0, st79_1, st79_2, st79_3, st79_4, st79_5, st79_6, st79_7, st79_8, st79_9, st79_10, st79_11, st79_12, st79_13, st79_14, st79_15, st79_16, st79_17, st79_18, st79_19, st79_20, st79_21, st79_22, hc.1, hc.2.1, ht.1.1, f67 hw ht, c, E_n (show b < 1000 by omega), e0, hbk.1.1, u1, u2, aft_some, Option.toList_some, Option.toList_none, List.cons_append, List.nil_append, br0, br1, br2, br3, zr01, zr02, n10, n01, ne_eq, not_true_eq_false, not_false_eq_true, if_true, if_false, true_and, and_true, and_self]
      · show rn (d + 12) 170 0 [some (Sum.inr (Sum.inl (69))), some (Sum.inl (E b)), some (Sum.inl (0))] [] μ = _
        simp only [st170_0, st170_1, st170_2, st170_3, st170_4, st170_5, st170_6, st170_7, st170_8, st170_9, st170_10, st170_11, st170_12, st170_13, st170_14, st170_15, st170_16, st170_17, st170_18, st170_19, st170_20, st170_21, st170_22, st170_23, st170_24, st170_25, st170_26, st170_27, st170_28, st170_29, hm.1, f141 hm hw hr.1, c, f143 (show b < 4 by omega) hm, v1, f139, l_ge0, isin2, show ((0 : Int32) ≤ 0) = True from eq_true (by decide), show ((0 : Int32) ≤ 2) = True from eq_true (by decide), aft_some, Option.toList_some, Option.toList_none, List.cons_append, List.nil_append, br0, br1, br2, br3, zr01, zr02, n10, n01, ne_eq, not_true_eq_false, not_false_eq_true, if_true, if_false, true_and, and_true, and_self]
    · by_cases y1 : y = 1
      · subst y1
        refine ⟨E (pcn (inA A b)), ?_, ?_⟩
        · show rn (d + 12) 79 0 [some (Sum.inr (Sum.inl (2))), some (Sum.inl (E b)), some (Sum.inl (1)), none] [] μ = _
          simp only [st79_0, st79_1, st79_2, st79_3, st79_4, st79_5, st79_6, st79_7, st79_8, st79_9, st79_10, st79_11, st79_12, st79_13, st79_14, st79_15, st79_16, st79_17, st79_18, st79_19, st79_20, st79_21, st79_22, hc.1, hc.2.1, ht.1.1, f67 hw ht, c, E_n (show b < 1000 by omega), e0, hbk.1.1, u1, u2, f224 hS, aft_some, Option.toList_some, Option.toList_none, List.cons_append, List.nil_append, br0, br1, br2, br3, zr01, zr02, n10, n01, ne_eq, not_true_eq_false, not_false_eq_true, if_true, if_false, true_and, and_true, and_self]
        · show rn (d + 12) 170 0 [some (Sum.inr (Sum.inl (69))), some (Sum.inl (E b)), some (Sum.inl (1))] [] μ = _
          simp only [st170_0, st170_1, st170_2, st170_3, st170_4, st170_5, st170_6, st170_7, st170_8, st170_9, st170_10, st170_11, st170_12, st170_13, st170_14, st170_15, st170_16, st170_17, st170_18, st170_19, st170_20, st170_21, st170_22, st170_23, st170_24, st170_25, st170_26, st170_27, st170_28, st170_29, hm.1, f141 hm hw hr.1, c, f144 (show b < 4 by omega) hm, v2, f139, l_ge0, isin2, f153 hS, show ((0 : Int32) ≤ 1) = True from eq_true (by decide), show ((1 : Int32) ≤ 2) = True from eq_true (by decide), aft_some, Option.toList_some, Option.toList_none, List.cons_append, List.nil_append, br0, br1, br2, br3, zr01, zr02, n10, n01, ne_eq, not_true_eq_false, not_false_eq_true, if_true, if_false, true_and, and_true, and_self]
      · by_cases y2 : y = 2
        · subst y2
          refine ⟨E (inA A b), ?_, ?_⟩
          · show rn (d + 12) 79 0 [some (Sum.inr (Sum.inl (2))), some (Sum.inl (E b)), some (Sum.inl (2)), none] [] μ = _
            simp only [st79_0, st79_1, st79_2, st79_3, st79_4, st79_5, st79_6, st79_7, st79_8, st79_9, st79_10, st79_11, st79_12, st79_13, st79_14, st79_15, st79_16, st79_17, st79_18, st79_19, st79_20, st79_21, st79_22, hc.1, hc.2.1, ht.1.1, f67 hw ht, c, E_n (show b < 1000 by omega), e0, hbk.1.1, u1, u2, en21', en20', aft_some, Option.toList_some, Option.toList_none, List.cons_append, List.nil_append, br0, br1, br2, br3, zr01, zr02, n10, n01, ne_eq, not_true_eq_false, not_false_eq_true, if_true, if_false, true_and, and_true, and_self]
          · show rn (d + 12) 170 0 [some (Sum.inr (Sum.inl (69))), some (Sum.inl (E b)), some (Sum.inl (2))] [] μ = _
            simp only [st170_0, st170_1, st170_2, st170_3, st170_4, st170_5, st170_6, st170_7, st170_8, st170_9, st170_10, st170_11, st170_12, st170_13, st170_14, st170_15, st170_16, st170_17, st170_18, st170_19, st170_20, st170_21, st170_22, st170_23, st170_24, st170_25, st170_26, st170_27, st170_28, st170_29, hm.1, f141 hm hw hr.1, c, f144 (show b < 4 by omega) hm, v2, f139, l_ge0, isin2, f153 hS, en21', en20', show ((0 : Int32) ≤ 2) = True from eq_true (by decide), show ((2 : Int32) ≤ 2) = True from eq_true (by decide), aft_some, Option.toList_some, Option.toList_none, List.cons_append, List.nil_append, br0, br1, br2, br3, zr01, zr02, n10, n01, ne_eq, not_true_eq_false, not_false_eq_true, if_true, if_false, true_and, and_true, and_self]
        · have yn : ¬ (0 ≤ y ∧ y ≤ 2) := fun e => by rcases in012.mp e with e | e | e <;> contradiction
          refine ⟨-1, ?_, ?_⟩
          · show rn (d + 12) 79 0 [some (Sum.inr (Sum.inl (2))), some (Sum.inl (E b)), some (Sum.inl (y)), none] [] μ = _
            simp only [st79_0, st79_1, st79_2, st79_3, st79_4, st79_5, st79_6, st79_7, st79_8, st79_9, st79_10, st79_11, st79_12, st79_13, st79_14, st79_15, st79_16, st79_17, st79_18, st79_19, st79_20, st79_21, st79_22, hc.1, hc.2.1, ht.1.1, f67 hw ht, c, E_n (show b < 1000 by omega), e0, y0, y1, y2, aft_some, Option.toList_some, Option.toList_none, List.cons_append, List.nil_append, br0, br1, br2, br3, zr01, zr02, n10, n01, ne_eq, not_true_eq_false, not_false_eq_true, if_true, if_false, true_and, and_true, and_self]
          · show rn (d + 12) 170 0 [some (Sum.inr (Sum.inl (69))), some (Sum.inl (E b)), some (Sum.inl (y))] [] μ = _
            simp only [st170_0, st170_1, st170_2, st170_3, st170_4, st170_5, st170_6, st170_7, st170_8, st170_9, st170_10, st170_11, st170_12, st170_13, st170_14, st170_15, st170_16, st170_17, st170_18, st170_19, st170_20, st170_21, st170_22, st170_23, st170_24, st170_25, st170_26, st170_27, st170_28, st170_29, hm.1, f141 hm hw hr.1, c, f139, l_ge0, isin2, yn, aft_some, Option.toList_some, Option.toList_none, List.cons_append, List.nil_append, br0, br1, br2, br3, zr01, zr02, n10, n01, ne_eq, not_true_eq_false, not_false_eq_true, if_true, if_false, true_and, and_true, and_self]
  · refine ⟨-1, ?_, ?_⟩
    · show rn (d + 12) 79 0 [some (Sum.inr (Sum.inl (2))), some (Sum.inl (x)), some (Sum.inl (y)), none] [] μ = _
      simp only [st79_0, st79_1, st79_2, st79_3, st79_4, st79_5, st79_6, st79_7, st79_8, st79_9, st79_10, st79_11, st79_12, st79_13, st79_14, st79_15, st79_16, st79_17, st79_18, st79_19, st79_20, st79_21, st79_22, hc.1, hc.2.1, ht.1.1, f67 hw ht, c, aft_some, Option.toList_some, Option.toList_none, List.cons_append, List.nil_append, br0, br1, br2, br3, zr01, zr02, n10, n01, ne_eq, not_true_eq_false, not_false_eq_true, if_true, if_false, true_and, and_true, and_self]
    · show rn (d + 12) 170 0 [some (Sum.inr (Sum.inl (69))), some (Sum.inl (x)), some (Sum.inl (y))] [] μ = _
      simp only [st170_0, st170_1, st170_2, st170_3, st170_4, st170_5, st170_6, st170_7, st170_8, st170_9, st170_10, st170_11, st170_12, st170_13, st170_14, st170_15, st170_16, st170_17, st170_18, st170_19, st170_20, st170_21, st170_22, st170_23, st170_24, st170_25, st170_26, st170_27, st170_28, st170_29, hm.1, f141 hm hw hr.1, c, aft_some, Option.toList_some, Option.toList_none, List.cons_append, List.nil_append, br0, br1, br2, br3, zr01, zr02, n10, n01, ne_eq, not_true_eq_false, not_false_eq_true, if_true, if_false, true_and, and_true, and_self]
theorem g82 {d : Nat} {x : Int32} {A : AT} {μ : SMem} (h : Both μ A) : ∃ v, cl (d + 12) 82 [Sum.inr (Sum.inl (2)), Sum.inl (x)] μ = some (Sum.inl (some (Sum.inl (v))), μ) ∧ cl (d + 12) 175 [Sum.inr (Sum.inl (69)), Sum.inl (x)] μ = some (Sum.inl (some (Sum.inl (v))), μ) := by
  obtain ⟨hm, hc, hw, ht, hr⟩ := h
  have w1 := hw.1
  by_cases c : 0 ≤ x ∧ x < E (bcA A)
  · obtain ⟨b, hb, rfl⟩ := E_of c.1 c.2 (by omega)
    have e0 : (3 + 3 + 3 * b = 0) = False := eq_false (by omega)
    have hbk := ht.bk (show b < 4 by omega)
    have hbs := (hr.mq hw).bk hw hb
    obtain ⟨u1, u2, u3, u4⟩ := ht.2.2.2.2.1 b (by omega)
    obtain ⟨v1, v2, v3, v4⟩ := hr.2.2.2.1 b hb
    have hnd := (hw.2.2.1 b hb).2.2.2.1
    refine ⟨E (und (ndA A b) (inA A b) 8), ?_, ?_⟩
    · show rn (d + 12) 82 0 [some (Sum.inr (Sum.inl (2))), some (Sum.inl (E b)), none] [] μ = _
      simp only [st82_0, st82_1, st82_2, st82_3, st82_4, st82_5, st82_6, st82_7, st82_8, st82_9, st82_10, st82_11, st82_12, st82_13, hc.1, hc.2.1, ht.1.1, f67 hw ht, c, E_n (show b < 1000 by omega), e0, hbk.1.1, u2, f16 (hw.in9 b) hnd hbk.1 hbk.2.2, aft_some, Option.toList_some, Option.toList_none, List.cons_append, List.nil_append, br0, br1, br2, br3, zr01, zr02, n10, n01, ne_eq, not_true_eq_false, not_false_eq_true, if_true, if_false, true_and, and_true, and_self]
    · show rn (d + 12) 175 0 [some (Sum.inr (Sum.inl (69))), some (Sum.inl (E b))] [] μ = _
      simp only [st175_0, st175_1, st175_2, st175_3, st175_4, st175_5, st175_6, st175_7, st175_8, st175_9, st175_10, st175_11, st175_12, hm.1, f141 hm hw hr.1, c, f144 (show b < 4 by omega) hm, v2, f156 hm hbs (hw.in2 b), aft_some, Option.toList_some, Option.toList_none, List.cons_append, List.nil_append, br0, br1, br2, br3, zr01, zr02, n10, n01, ne_eq, not_true_eq_false, not_false_eq_true, if_true, if_false, true_and, and_true, and_self]
  · refine ⟨-1, ?_, ?_⟩
    · show rn (d + 12) 82 0 [some (Sum.inr (Sum.inl (2))), some (Sum.inl (x)), none] [] μ = _
      simp only [st82_0, st82_1, st82_2, st82_3, st82_4, st82_5, st82_6, st82_7, st82_8, st82_9, st82_10, st82_11, st82_12, st82_13, hc.1, hc.2.1, ht.1.1, f67 hw ht, c, aft_some, Option.toList_some, Option.toList_none, List.cons_append, List.nil_append, br0, br1, br2, br3, zr01, zr02, n10, n01, ne_eq, not_true_eq_false, not_false_eq_true, if_true, if_false, true_and, and_true, and_self]
    · show rn (d + 12) 175 0 [some (Sum.inr (Sum.inl (69))), some (Sum.inl (x))] [] μ = _
      simp only [st175_0, st175_1, st175_2, st175_3, st175_4, st175_5, st175_6, st175_7, st175_8, st175_9, st175_10, st175_11, st175_12, hm.1, f141 hm hw hr.1, c, aft_some, Option.toList_some, Option.toList_none, List.cons_append, List.nil_append, br0, br1, br2, br3, zr01, zr02, n10, n01, ne_eq, not_true_eq_false, not_false_eq_true, if_true, if_false, true_and, and_true, and_self]
theorem g83 {d : Nat} {x y : Int32} {A : AT} {μ : SMem} (h : Both μ A) : ∃ v, cl (d + 12) 83 [Sum.inr (Sum.inl (2)), Sum.inl (x), Sum.inl (y)] μ = some (Sum.inl (some (Sum.inl (v))), μ) ∧ cl (d + 12) 177 [Sum.inr (Sum.inl (69)), Sum.inl (x), Sum.inl (y)] μ = some (Sum.inl (some (Sum.inl (v))), μ) := by
  obtain ⟨hm, hc, hw, ht, hr⟩ := h
  have hq := hr.mq hw
  by_cases c1 : 0 ≤ x ∧ x < E (rcA A)
  · obtain ⟨r, hr1, rfl⟩ := E_of c1.1 c1.2 (by have := hw.2.1; omega)
    obtain ⟨r0, hrd⟩ := ht.2.2.2.2.2 r hr1
    have r9 : r < 1000 := by have := hw.2.1; omega
    by_cases c2 : 0 ≤ y ∧ y < E (bcA A)
    · obtain ⟨b, hb, rfl⟩ := E_of c2.1 c2.2 (by have := hw.1; omega)
      have b9 : b < 4 := by have := hw.1; omega
      have e0 : (3 + 3 + 3 * b = 0) = False := eq_false (by omega)
      have hbk := ht.bk b9
      obtain ⟨u1, u2, u3, u4⟩ := ht.2.2.2.2.1 b b9
      obtain ⟨a1, a2, a3, a4, _⟩ := hw.2.2.1 b hb
      refine ⟨E (wor (kdA A r) (fgA A r) (pgA A b) (ndA A b) (inA A b)), ?_, ?_⟩
      · show rn (d + 12) 83 0 [some (Sum.inr (Sum.inl (2))), some (Sum.inl (E r)), some (Sum.inl (E b)), none, none] [] μ = _
        simp only [st83_0, st83_1, st83_2, st83_3, st83_4, st83_5, st83_6, st83_7, st83_8, st83_9, st83_10, st83_11, st83_12, st83_13, st83_14, st83_15, st83_16, st83_17, st83_18, st83_19, st83_20_t0, st83_20_t2, st83_20_t3, st83_20_t4, st83_20_t5, st83_20_t6, st83_20_t7, st83_20_t9, st83_21, st83_20v, hc.1, hc.2.1, ht.1.1, f67 hw ht, f68 hw ht, c1, c2, E_n r9, E_n (show b < 1000 by omega), r0, e0, hbk.1.1, u2, st83_20v hrd.rd, fwor (hw.in9 b) a2 a1 a4 hrd hbk, aft_some, Option.toList_some, Option.toList_none, List.cons_append, List.nil_append, br0, br1, br2, br3, zr01, zr02, n10, n01, ne_eq, not_true_eq_false, not_false_eq_true, if_true, if_false, true_and, and_true, and_self]
      · show rn (d + 12) 177 0 [some (Sum.inr (Sum.inl (69))), some (Sum.inl (E r)), some (Sum.inl (E b))] [] μ = _
        simp only [st177_0, st177_1, st177_2, st177_3, st177_4, st177_5, st177_6, st177_7, st177_8, st177_9, st177_10, st177_11, hm.1, f176 hm hw hq, c1, c2, f158 hm (hq.rd hw hr1) (hq.bk hw hb), aft_some, Option.toList_some, Option.toList_none, List.cons_append, List.nil_append, br0, br1, br2, br3, zr01, zr02, n10, n01, ne_eq, not_true_eq_false, not_false_eq_true, if_true, if_false, true_and, and_true, and_self]
    · refine ⟨-1, ?_, ?_⟩
      · show rn (d + 12) 83 0 [some (Sum.inr (Sum.inl (2))), some (Sum.inl (E r)), some (Sum.inl (y)), none, none] [] μ = _
        simp only [st83_0, st83_1, st83_2, st83_3, st83_4, st83_5, st83_6, st83_7, st83_8, st83_9, st83_10, st83_11, st83_12, st83_13, st83_14, st83_15, st83_16, st83_17, st83_18, st83_19, st83_20_t0, st83_20_t2, st83_20_t3, st83_20_t4, st83_20_t5, st83_20_t6, st83_20_t7, st83_20_t9, st83_21, st83_20v, hc.1, hc.2.1, ht.1.1, f67 hw ht, f68 hw ht, c1, c2, E_n r9, r0, aft_some, Option.toList_some, Option.toList_none, List.cons_append, List.nil_append, br0, br1, br2, br3, zr01, zr02, n10, n01, ne_eq, not_true_eq_false, not_false_eq_true, if_true, if_false, true_and, and_true, and_self]
      · show rn (d + 12) 177 0 [some (Sum.inr (Sum.inl (69))), some (Sum.inl (E r)), some (Sum.inl (y))] [] μ = _
        simp only [st177_0, st177_1, st177_2, st177_3, st177_4, st177_5, st177_6, st177_7, st177_8, st177_9, st177_10, st177_11, hm.1, f176 hm hw hq, c1, c2, and_false, aft_some, Option.toList_some, Option.toList_none, List.cons_append, List.nil_append, br0, br1, br2, br3, zr01, zr02, n10, n01, ne_eq, not_true_eq_false, not_false_eq_true, if_true, if_false, true_and, and_true, and_self]
  · refine ⟨-1, ?_, ?_⟩
    · show rn (d + 12) 83 0 [some (Sum.inr (Sum.inl (2))), some (Sum.inl (x)), some (Sum.inl (y)), none, none] [] μ = _
      simp only [st83_0, st83_1, st83_2, st83_3, st83_4, st83_5, st83_6, st83_7, st83_8, st83_9, st83_10, st83_11, st83_12, st83_13, st83_14, st83_15, st83_16, st83_17, st83_18, st83_19, st83_20_t0, st83_20_t2, st83_20_t3, st83_20_t4, st83_20_t5, st83_20_t6, st83_20_t7, st83_20_t9, st83_21, st83_20v, hc.1, hc.2.1, ht.1.1, f67 hw ht, f68 hw ht, c1, aft_some, Option.toList_some, Option.toList_none, List.cons_append, List.nil_append, br0, br1, br2, br3, zr01, zr02, n10, n01, ne_eq, not_true_eq_false, not_false_eq_true, if_true, if_false, true_and, and_true, and_self]
    · show rn (d + 12) 177 0 [some (Sum.inr (Sum.inl (69))), some (Sum.inl (x)), some (Sum.inl (y))] [] μ = _
      simp only [st177_0, st177_1, st177_2, st177_3, st177_4, st177_5, st177_6, st177_7, st177_8, st177_9, st177_10, st177_11, hm.1, f176 hm hw hq, c1, false_and, aft_some, Option.toList_some, Option.toList_none, List.cons_append, List.nil_append, br0, br1, br2, br3, zr01, zr02, n10, n01, ne_eq, not_true_eq_false, not_false_eq_true, if_true, if_false, true_and, and_true, and_self]
theorem g84 {d : Nat} {x y : Int32} {A : AT} {μ : SMem} (h : Both μ A) : ∃ v, cl (d + 12) 84 [Sum.inr (Sum.inl (2)), Sum.inl (x), Sum.inl (y)] μ = some (Sum.inl (some (Sum.inl (v))), μ) ∧ cl (d + 12) 178 [Sum.inr (Sum.inl (69)), Sum.inl (x), Sum.inl (y)] μ = some (Sum.inl (some (Sum.inl (v))), μ) := by
  obtain ⟨hm, hc, hw, ht, hr⟩ := h
  have hq := hr.mq hw
  by_cases c1 : 0 ≤ x ∧ x < E (rcA A)
  · obtain ⟨r, hr1, rfl⟩ := E_of c1.1 c1.2 (by have := hw.2.1; omega)
    obtain ⟨r0, hrd⟩ := ht.2.2.2.2.2 r hr1
    have r9 : r < 1000 := by have := hw.2.1; omega
    have r6 : r < 6 := by have := hw.2.1; omega
    obtain ⟨k1, k2⟩ := hw.2.2.2.2 r hr1
    by_cases c2 : 0 ≤ y ∧ y < E (bcA A)
    · obtain ⟨b, hb, rfl⟩ := E_of c2.1 c2.2 (by have := hw.1; omega)
      have b9 : b < 4 := by have := hw.1; omega
      have e0 : (3 + 3 + 3 * b = 0) = False := eq_false (by omega)
      have hbk := ht.bk b9
      obtain ⟨u1, u2, u3, u4⟩ := ht.2.2.2.2.1 b b9
      obtain ⟨a1, a2, a3, a4, _⟩ := hw.2.2.1 b hb
      refine ⟨tk (kdA A r) (fgA A r) (pgA A b) (ndA A b) (inA A b), ?_, ?_⟩
      · show rn (d + 12) 84 0 [some (Sum.inr (Sum.inl (2))), some (Sum.inl (E r)), some (Sum.inl (E b)), none, none] [] μ = _
        simp only [st84_0, st84_1, st84_2, st84_3, st84_4, st84_5, st84_6, st84_7, st84_8, st84_9, st84_10, st84_11, st84_12, st84_13, st84_14, st84_15, st84_16, st84_17, st84_18, st84_19, st84_20_t0, st84_20_t2, st84_20_t3, st84_20_t4, st84_20_t5, st84_20_t6, st84_20_t7, st84_20_t9, st84_21, st84_20v, hc.1, hc.2.1, ht.1.1, f67 hw ht, f68 hw ht, c1, c2, E_n r9, E_n (show b < 1000 by omega), r0, e0, hbk.1.1, u2, st84_20v hrd.rd, ftk (hw.in9 b) a2 a1 a4 hrd hbk, aft_some, Option.toList_some, Option.toList_none, List.cons_append, List.nil_append, br0, br1, br2, br3, zr01, zr02, n10, n01, ne_eq, not_true_eq_false, not_false_eq_true, if_true, if_false, true_and, and_true, and_self]
      · show rn (d + 12) 178 0 [some (Sum.inr (Sum.inl (69))), some (Sum.inl (E r)), some (Sum.inl (E b))] [] μ = _
        simp only [st178_0, st178_1, st178_2, st178_3, st178_4, st178_5, st178_6, st178_7, st178_8, st178_9, st178_10, st178_11, st178_12, st178_13, st178_14, st178_15, st178_16, hm.1, f176 hm hw hq, c1, c2, f150 r6 hm, f151 r6 hm, (hr.2.2.2.2 r hr1).1, (hr.2.2.2.2 r hr1).2, f160 k1 k2 hm (hq.bk hw hb), aft_some, Option.toList_some, Option.toList_none, List.cons_append, List.nil_append, br0, br1, br2, br3, zr01, zr02, n10, n01, ne_eq, not_true_eq_false, not_false_eq_true, if_true, if_false, true_and, and_true, and_self]
    · refine ⟨-1, ?_, ?_⟩
      · show rn (d + 12) 84 0 [some (Sum.inr (Sum.inl (2))), some (Sum.inl (E r)), some (Sum.inl (y)), none, none] [] μ = _
        simp only [st84_0, st84_1, st84_2, st84_3, st84_4, st84_5, st84_6, st84_7, st84_8, st84_9, st84_10, st84_11, st84_12, st84_13, st84_14, st84_15, st84_16, st84_17, st84_18, st84_19, st84_20_t0, st84_20_t2, st84_20_t3, st84_20_t4, st84_20_t5, st84_20_t6, st84_20_t7, st84_20_t9, st84_21, st84_20v, hc.1, hc.2.1, ht.1.1, f67 hw ht, f68 hw ht, c1, c2, E_n r9, r0, aft_some, Option.toList_some, Option.toList_none, List.cons_append, List.nil_append, br0, br1, br2, br3, zr01, zr02, n10, n01, ne_eq, not_true_eq_false, not_false_eq_true, if_true, if_false, true_and, and_true, and_self]
      · show rn (d + 12) 178 0 [some (Sum.inr (Sum.inl (69))), some (Sum.inl (E r)), some (Sum.inl (y))] [] μ = _
        simp only [st178_0, st178_1, st178_2, st178_3, st178_4, st178_5, st178_6, st178_7, st178_8, st178_9, st178_10, st178_11, st178_12, st178_13, st178_14, st178_15, st178_16, hm.1, f176 hm hw hq, c1, c2, and_false, aft_some, Option.toList_some, Option.toList_none, List.cons_append, List.nil_append, br0, br1, br2, br3, zr01, zr02, n10, n01, ne_eq, not_true_eq_false, not_false_eq_true, if_true, if_false, true_and, and_true, and_self]
  · refine ⟨-1, ?_, ?_⟩
    · show rn (d + 12) 84 0 [some (Sum.inr (Sum.inl (2))), some (Sum.inl (x)), some (Sum.inl (y)), none, none] [] μ = _
      simp only [st84_0, st84_1, st84_2, st84_3, st84_4, st84_5, st84_6, st84_7, st84_8, st84_9, st84_10, st84_11, st84_12, st84_13, st84_14, st84_15, st84_16, st84_17, st84_18, st84_19, st84_20_t0, st84_20_t2, st84_20_t3, st84_20_t4, st84_20_t5, st84_20_t6, st84_20_t7, st84_20_t9, st84_21, st84_20v, hc.1, hc.2.1, ht.1.1, f67 hw ht, f68 hw ht, c1, aft_some, Option.toList_some, Option.toList_none, List.cons_append, List.nil_append, br0, br1, br2, br3, zr01, zr02, n10, n01, ne_eq, not_true_eq_false, not_false_eq_true, if_true, if_false, true_and, and_true, and_self]
    · show rn (d + 12) 178 0 [some (Sum.inr (Sum.inl (69))), some (Sum.inl (x)), some (Sum.inl (y))] [] μ = _
      simp only [st178_0, st178_1, st178_2, st178_3, st178_4, st178_5, st178_6, st178_7, st178_8, st178_9, st178_10, st178_11, st178_12, st178_13, st178_14, st178_15, st178_16, hm.1, f176 hm hw hq, c1, false_and, aft_some, Option.toList_some, Option.toList_none, List.cons_append, List.nil_append, br0, br1, br2, br3, zr01, zr02, n10, n01, ne_eq, not_true_eq_false, not_false_eq_true, if_true, if_false, true_and, and_true, and_self]
