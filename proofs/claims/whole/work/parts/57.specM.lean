/-! SPECS M: page, copies, what a reader has, counts -/
theorem g80 {d : Nat} {x y z : Int32} {A : AT} {μ : SMem} (h : Both μ A) : ∃ v, cl (d + 12) 80 [Sum.inr (Sum.inl (2)), Sum.inl (x), Sum.inl (y), Sum.inl (z)] μ = some (Sum.inl (some (Sum.inl (v))), μ) ∧ cl (d + 12) 171 [Sum.inr (Sum.inl (69)), Sum.inl (x), Sum.inl (y), Sum.inl (z)] μ = some (Sum.inl (some (Sum.inl (v))), μ) := by
  obtain ⟨hm, hc, hw, ht, hr⟩ := h
  have w1 := hw.1
  have hq := hr.mq hw
  by_cases c : 0 ≤ x ∧ x < E (bcA A)
  · obtain ⟨b, hb, rfl⟩ := E_of c.1 c.2 (by omega)
    have b9 : b < 4 := by omega
    have e0 : (3 + 3 + 3 * b = 0) = False := eq_false (by omega)
    have hbk := ht.bk b9
    have hbs := hq.bk hw hb
    obtain ⟨u1, u2, u3, u4⟩ := ht.2.2.2.2.1 b b9
    obtain ⟨v1, v2, v3, v4⟩ := hr.2.2.2.1 b hb
    have hS := hw.in9 b
    have hp9 := hw.pg9 b
    by_cases cy : 0 ≤ y ∧ y < E (pgA A b)
    · obtain ⟨p, hp, rfl⟩ := E_of cy.1 cy.2 (by omega)
      have p8 : p < 8 := by omega
      by_cases y0 : z = 0
      · subst y0
        refine ⟨if (inA A b).testBit p = true then 1 else 0, ?_, ?_⟩
        · show rn (d + 12) 80 0 [some (Sum.inr (Sum.inl (2))), some (Sum.inl (E b)), some (Sum.inl (E p)), some (Sum.inl (0)), none] [] μ = _
          simp only [st80_0, st80_1, st80_2, st80_3, st80_4, st80_5, st80_6, st80_7, st80_8, st80_9, st80_10, st80_11, st80_12, st80_13, st80_14, st80_15, st80_16, st80_17, st80_18, st80_19, st80_20, st80_21, st80_22, st80_23, st80_24, st80_25, st80_26, st80_27, st80_28, st80_29, st80_30, st80_31, st80_32, hc.1, hc.2.1, ht.1.1, f67 hw ht, c, E_n (show b < 1000 by omega), e0, hbk.1.1, f7 hp9 hbk.1.1 u1, f8 hp9 hS hbk.1.1 u1 u2, cy, E_n (show p < 1000 by omega), aft_some, Option.toList_some, Option.toList_none, List.cons_append, List.nil_append, br0, br1, br2, br3, zr01, zr02, n10, n01, ne_eq, not_true_eq_false, not_false_eq_true, if_true, if_false, true_and, and_true, and_self]
          by_cases q : (inA A b).testBit p = true <;> simp [q]
        · show rn (d + 12) 171 0 [some (Sum.inr (Sum.inl (69))), some (Sum.inl (E b)), some (Sum.inl (E p)), some (Sum.inl (0))] [] μ = _
          simp only [st171_0, st171_1, st171_2, st171_3, st171_4, st171_5, st171_6, st171_7, st171_8, st171_9, st171_10, st171_11, st171_12, st171_13, st171_14, st171_15, st171_16, st171_17, st171_18, st171_19, st171_20, st171_21, st171_22, st171_23, st171_24, st171_25, st171_26, st171_27, st171_28, st171_29, st171_30, st171_31, st171_32, st171_33, st171_34, st171_35, st171_36, st171_37, st171_38, st171_39, st171_40, st171_41, st171_42, hm.1, f148 hm hw hq, c, E_n (show b < 1000 by omega), cy, f144 b9 hm, v2, E_bit _ hS p p8, f139, l_ge0, isin2, show ((0 : Int32) ≤ 0) = True from eq_true (by decide), show ((0 : Int32) ≤ 2) = True from eq_true (by decide), aft_some, Option.toList_some, Option.toList_none, List.cons_append, List.nil_append, br0, br1, br2, br3, zr01, zr02, n10, n01, ne_eq, not_true_eq_false, not_false_eq_true, if_true, if_false, true_and, and_true, and_self]
      · by_cases y1 : z = 1
        · subst y1
          refine ⟨ndA A b p, ?_, ?_⟩
          · show rn (d + 12) 80 0 [some (Sum.inr (Sum.inl (2))), some (Sum.inl (E b)), some (Sum.inl (E p)), some (Sum.inl (1)), none] [] μ = _
            simp only [st80_0, st80_1, st80_2, st80_3, st80_4, st80_5, st80_6, st80_7, st80_8, st80_9, st80_10, st80_11, st80_12, st80_13, st80_14, st80_15, st80_16, st80_17, st80_18, st80_19, st80_20, st80_21, st80_22, st80_23, st80_24, st80_25, st80_26, st80_27, st80_28, st80_29, st80_30, st80_31, st80_32, hc.1, hc.2.1, ht.1.1, f67 hw ht, c, E_n (show b < 1000 by omega), e0, hbk.1.1, f7 hp9 hbk.1.1 u1, f10 hp9 hbk.1 u1, cy, E_n (show p < 1000 by omega), u3 p p8, aft_some, Option.toList_some, Option.toList_none, List.cons_append, List.nil_append, br0, br1, br2, br3, zr01, zr02, n10, n01, ne_eq, not_true_eq_false, not_false_eq_true, if_true, if_false, true_and, and_true, and_self]
          · show rn (d + 12) 171 0 [some (Sum.inr (Sum.inl (69))), some (Sum.inl (E b)), some (Sum.inl (E p)), some (Sum.inl (1))] [] μ = _
            simp only [st171_0, st171_1, st171_2, st171_3, st171_4, st171_5, st171_6, st171_7, st171_8, st171_9, st171_10, st171_11, st171_12, st171_13, st171_14, st171_15, st171_16, st171_17, st171_18, st171_19, st171_20, st171_21, st171_22, st171_23, st171_24, st171_25, st171_26, st171_27, st171_28, st171_29, st171_30, st171_31, st171_32, st171_33, st171_34, st171_35, st171_36, st171_37, st171_38, st171_39, st171_40, st171_41, st171_42, hm.1, f148 hm hw hq, c, E_n (show b < 1000 by omega), cy, f146 b9 p8 hm, v3 p p8, f139, l_ge0, isin2, show ((0 : Int32) ≤ 1) = True from eq_true (by decide), show ((1 : Int32) ≤ 2) = True from eq_true (by decide), aft_some, Option.toList_some, Option.toList_none, List.cons_append, List.nil_append, br0, br1, br2, br3, zr01, zr02, n10, n01, ne_eq, not_true_eq_false, not_false_eq_true, if_true, if_false, true_and, and_true, and_self]
        · by_cases y2 : z = 2
          · subst y2
            refine ⟨hoA A b p, ?_, ?_⟩
            · show rn (d + 12) 80 0 [some (Sum.inr (Sum.inl (2))), some (Sum.inl (E b)), some (Sum.inl (E p)), some (Sum.inl (2)), none] [] μ = _
              simp only [st80_0, st80_1, st80_2, st80_3, st80_4, st80_5, st80_6, st80_7, st80_8, st80_9, st80_10, st80_11, st80_12, st80_13, st80_14, st80_15, st80_16, st80_17, st80_18, st80_19, st80_20, st80_21, st80_22, st80_23, st80_24, st80_25, st80_26, st80_27, st80_28, st80_29, st80_30, st80_31, st80_32, hc.1, hc.2.1, ht.1.1, f67 hw ht, c, E_n (show b < 1000 by omega), e0, hbk.1.1, f7 hp9 hbk.1.1 u1, f11 hp9 hbk.1 u1, cy, E_n (show p < 1000 by omega), u4 p p8, en21', en20', aft_some, Option.toList_some, Option.toList_none, List.cons_append, List.nil_append, br0, br1, br2, br3, zr01, zr02, n10, n01, ne_eq, not_true_eq_false, not_false_eq_true, if_true, if_false, true_and, and_true, and_self]
            · show rn (d + 12) 171 0 [some (Sum.inr (Sum.inl (69))), some (Sum.inl (E b)), some (Sum.inl (E p)), some (Sum.inl (2))] [] μ = _
              simp only [st171_0, st171_1, st171_2, st171_3, st171_4, st171_5, st171_6, st171_7, st171_8, st171_9, st171_10, st171_11, st171_12, st171_13, st171_14, st171_15, st171_16, st171_17, st171_18, st171_19, st171_20, st171_21, st171_22, st171_23, st171_24, st171_25, st171_26, st171_27, st171_28, st171_29, st171_30, st171_31, st171_32, st171_33, st171_34, st171_35, st171_36, st171_37, st171_38, st171_39, st171_40, st171_41, st171_42, hm.1, f148 hm hw hq, c, E_n (show b < 1000 by omega), cy, f149 p8 hm hbs, f147 b9 p8 hm, f139, l_ge0, isin2, en21', en20', show ((0 : Int32) ≤ 2) = True from eq_true (by decide), show ((2 : Int32) ≤ 2) = True from eq_true (by decide), aft_some, Option.toList_some, Option.toList_none, List.cons_append, List.nil_append, br0, br1, br2, br3, zr01, zr02, n10, n01, ne_eq, not_true_eq_false, not_false_eq_true, if_true, if_false, true_and, and_true, and_self]
              by_cases q : (inA A b).testBit p = true
              · have := (hw.2.2.1 b hb).2.2.2.2.1 p p8 q
                simp [q, this]
              · have q2 : (inA A b).testBit p = false := by simpa using q
                simp [q2, v4 p p8 hp q2]
          · have yn : ¬ (0 ≤ z ∧ z ≤ 2) := fun e => by rcases in012.mp e with e | e | e <;> contradiction
            refine ⟨-1, ?_, ?_⟩
            · show rn (d + 12) 80 0 [some (Sum.inr (Sum.inl (2))), some (Sum.inl (E b)), some (Sum.inl (E p)), some (Sum.inl (z)), none] [] μ = _
              simp only [st80_0, st80_1, st80_2, st80_3, st80_4, st80_5, st80_6, st80_7, st80_8, st80_9, st80_10, st80_11, st80_12, st80_13, st80_14, st80_15, st80_16, st80_17, st80_18, st80_19, st80_20, st80_21, st80_22, st80_23, st80_24, st80_25, st80_26, st80_27, st80_28, st80_29, st80_30, st80_31, st80_32, hc.1, hc.2.1, ht.1.1, f67 hw ht, c, E_n (show b < 1000 by omega), e0, hbk.1.1, f7 hp9 hbk.1.1 u1, cy, y0, y1, y2, aft_some, Option.toList_some, Option.toList_none, List.cons_append, List.nil_append, br0, br1, br2, br3, zr01, zr02, n10, n01, ne_eq, not_true_eq_false, not_false_eq_true, if_true, if_false, true_and, and_true, and_self]
            · show rn (d + 12) 171 0 [some (Sum.inr (Sum.inl (69))), some (Sum.inl (E b)), some (Sum.inl (E p)), some (Sum.inl (z))] [] μ = _
              simp only [st171_0, st171_1, st171_2, st171_3, st171_4, st171_5, st171_6, st171_7, st171_8, st171_9, st171_10, st171_11, st171_12, st171_13, st171_14, st171_15, st171_16, st171_17, st171_18, st171_19, st171_20, st171_21, st171_22, st171_23, st171_24, st171_25, st171_26, st171_27, st171_28, st171_29, st171_30, st171_31, st171_32, st171_33, st171_34, st171_35, st171_36, st171_37, st171_38, st171_39, st171_40, st171_41, st171_42, hm.1, f148 hm hw hq, c, E_n (show b < 1000 by omega), cy, f139, l_ge0, isin2, yn, aft_some, Option.toList_some, Option.toList_none, List.cons_append, List.nil_append, br0, br1, br2, br3, zr01, zr02, n10, n01, ne_eq, not_true_eq_false, not_false_eq_true, if_true, if_false, true_and, and_true, and_self]
    · refine ⟨-1, ?_, ?_⟩
      · show rn (d + 12) 80 0 [some (Sum.inr (Sum.inl (2))), some (Sum.inl (E b)), some (Sum.inl (y)), some (Sum.inl (z)), none] [] μ = _
        simp only [st80_0, st80_1, st80_2, st80_3, st80_4, st80_5, st80_6, st80_7, st80_8, st80_9, st80_10, st80_11, st80_12, st80_13, st80_14, st80_15, st80_16, st80_17, st80_18, st80_19, st80_20, st80_21, st80_22, st80_23, st80_24, st80_25, st80_26, st80_27, st80_28, st80_29, st80_30, st80_31, st80_32, hc.1, hc.2.1, ht.1.1, f67 hw ht, c, E_n (show b < 1000 by omega), e0, hbk.1.1, f7 hp9 hbk.1.1 u1, cy, aft_some, Option.toList_some, Option.toList_none, List.cons_append, List.nil_append, br0, br1, br2, br3, zr01, zr02, n10, n01, ne_eq, not_true_eq_false, not_false_eq_true, if_true, if_false, true_and, and_true, and_self]
      · show rn (d + 12) 171 0 [some (Sum.inr (Sum.inl (69))), some (Sum.inl (E b)), some (Sum.inl (y)), some (Sum.inl (z))] [] μ = _
        simp only [st171_0, st171_1, st171_2, st171_3, st171_4, st171_5, st171_6, st171_7, st171_8, st171_9, st171_10, st171_11, st171_12, st171_13, st171_14, st171_15, st171_16, st171_17, st171_18, st171_19, st171_20, st171_21, st171_22, st171_23, st171_24, st171_25, st171_26, st171_27, st171_28, st171_29, st171_30, st171_31, st171_32, st171_33, st171_34, st171_35, st171_36, st171_37, st171_38, st171_39, st171_40, st171_41, st171_42, hm.1, f148 hm hw hq, c, E_n (show b < 1000 by omega), cy, and_false, aft_some, Option.toList_some, Option.toList_none, List.cons_append, List.nil_append, br0, br1, br2, br3, zr01, zr02, n10, n01, ne_eq, not_true_eq_false, not_false_eq_true, if_true, if_false, true_and, and_true, and_self]
  · refine ⟨-1, ?_, ?_⟩
    · show rn (d + 12) 80 0 [some (Sum.inr (Sum.inl (2))), some (Sum.inl (x)), some (Sum.inl (y)), some (Sum.inl (z)), none] [] μ = _
      simp only [st80_0, st80_1, st80_2, st80_3, st80_4, st80_5, st80_6, st80_7, st80_8, st80_9, st80_10, st80_11, st80_12, st80_13, st80_14, st80_15, st80_16, st80_17, st80_18, st80_19, st80_20, st80_21, st80_22, st80_23, st80_24, st80_25, st80_26, st80_27, st80_28, st80_29, st80_30, st80_31, st80_32, hc.1, hc.2.1, ht.1.1, f67 hw ht, c, aft_some, Option.toList_some, Option.toList_none, List.cons_append, List.nil_append, br0, br1, br2, br3, zr01, zr02, n10, n01, ne_eq, not_true_eq_false, not_false_eq_true, if_true, if_false, true_and, and_true, and_self]
    · show rn (d + 12) 171 0 [some (Sum.inr (Sum.inl (69))), some (Sum.inl (x)), some (Sum.inl (y)), some (Sum.inl (z))] [] μ = _
      simp only [st171_0, st171_1, st171_2, st171_3, st171_4, st171_5, st171_6, st171_7, st171_8, st171_9, st171_10, st171_11, st171_12, st171_13, st171_14, st171_15, st171_16, st171_17, st171_18, st171_19, st171_20, st171_21, st171_22, st171_23, st171_24, st171_25, st171_26, st171_27, st171_28, st171_29, st171_30, st171_31, st171_32, st171_33, st171_34, st171_35, st171_36, st171_37, st171_38, st171_39, st171_40, st171_41, st171_42, hm.1, f148 hm hw hq, c, false_and, aft_some, Option.toList_some, Option.toList_none, List.cons_append, List.nil_append, br0, br1, br2, br3, zr01, zr02, n10, n01, ne_eq, not_true_eq_false, not_false_eq_true, if_true, if_false, true_and, and_true, and_self]
theorem g95 {d : Nat} {x y : Int32} {A : AT} {μ : SMem} (h : Both μ A) : ∃ v, cl (d + 12) 95 [Sum.inr (Sum.inl (2)), Sum.inl (x), Sum.inl (y)] μ = some (Sum.inl (some (Sum.inl (v))), μ) ∧ cl (d + 12) 200 [Sum.inr (Sum.inl (69)), Sum.inl (x), Sum.inl (y)] μ = some (Sum.inl (some (Sum.inl (v))), μ) := by
  obtain ⟨hm, hc, hw, ht, hr⟩ := h
  have w1 := hw.1
  by_cases c1 : 0 ≤ x ∧ x < E (bcA A)
  · obtain ⟨b, hb, rfl⟩ := E_of c1.1 c1.2 (by omega)
    have e0 : (3 + 3 + 3 * b = 0) = False := eq_false (by omega)
    by_cases c2 : 0 ≤ y ∧ y < E (bcA A)
    · obtain ⟨b', hb', rfl⟩ := E_of c2.1 c2.2 (by omega)
      have e0' : (3 + 3 + 3 * b' = 0) = False := eq_false (by omega)
      have hbk := ht.bk (show b < 4 by omega)
      have hbk' := ht.bk (show b' < 4 by omega)
      obtain ⟨u1, u2, u3, u4⟩ := ht.2.2.2.2.1 b (by omega)
      obtain ⟨u1', u2', u3', u4'⟩ := ht.2.2.2.2.1 b' (by omega)
      obtain ⟨v1, v2, v3, v4⟩ := hr.2.2.2.1 b hb
      obtain ⟨v1', v2', v3', v4'⟩ := hr.2.2.2.1 b' hb'
      by_cases e : E b = E b'
      · refine ⟨-1, ?_, ?_⟩
        · show rn (d + 12) 95 0 [some (Sum.inr (Sum.inl (2))), some (Sum.inl (E b)), some (Sum.inl (E b')), none, none] [] μ = _
          simp only [st95_0, st95_1, st95_2, st95_3, st95_4, st95_5, st95_6, st95_7, st95_8, st95_9, st95_10, st95_11, st95_12, st95_13, st95_14, st95_15, st95_16, st95_17, st95_18, st95_19, st95_20, st95_21, st95_22, st95_23, st95_24, st95_25, st95_26, st95_27, st95_28, st95_29, st95_30, st95_31, hc.1, hc.2.1, ht.1.1, f67 hw ht, c1, c2, E_n (show b < 1000 by omega), E_n (show b' < 1000 by omega), e0, e0', e, aft_some, Option.toList_some, Option.toList_none, List.cons_append, List.nil_append, br0, br1, br2, br3, zr01, zr02, n10, n01, ne_eq, not_true_eq_false, not_false_eq_true, if_true, if_false, true_and, and_true, and_self]
        · show rn (d + 12) 200 0 [some (Sum.inr (Sum.inl (69))), some (Sum.inl (E b)), some (Sum.inl (E b'))] [] μ = _
          simp only [st200_0, st200_1, st200_2, st200_3, st200_4, st200_5, st200_6, st200_7, st200_8, st200_9, st200_10, st200_11, st200_12, st200_13, st200_14, st200_15, st200_16, st200_17, st200_18, st200_19, st200_20, st200_21, st200_22, st200_23, st200_24, st200_25, st200_26, st200_27, st200_28, st200_29, hm.1, f141 hm hw hr.1, c1, c2, e, aft_some, Option.toList_some, Option.toList_none, List.cons_append, List.nil_append, br0, br1, br2, br3, zr01, zr02, n10, n01, ne_eq, not_true_eq_false, not_false_eq_true, if_true, if_false, true_and, and_true, and_self]
      · by_cases ep : E (pgA A b) = E (pgA A b')
        · refine ⟨E (inA A b) ||| E (inA A b'), ?_, ?_⟩
          · show rn (d + 12) 95 0 [some (Sum.inr (Sum.inl (2))), some (Sum.inl (E b)), some (Sum.inl (E b')), none, none] [] μ = _
            simp only [st95_0, st95_1, st95_2, st95_3, st95_4, st95_5, st95_6, st95_7, st95_8, st95_9, st95_10, st95_11, st95_12, st95_13, st95_14, st95_15, st95_16, st95_17, st95_18, st95_19, st95_20, st95_21, st95_22, st95_23, st95_24, st95_25, st95_26, st95_27, st95_28, st95_29, st95_30, st95_31, hc.1, hc.2.1, ht.1.1, f67 hw ht, c1, c2, E_n (show b < 1000 by omega), E_n (show b' < 1000 by omega), e0, e0', e, hbk.1.1, hbk'.1.1, u1, u1', u2, u2', ep, aft_some, Option.toList_some, Option.toList_none, List.cons_append, List.nil_append, br0, br1, br2, br3, zr01, zr02, n10, n01, ne_eq, not_true_eq_false, not_false_eq_true, if_true, if_false, true_and, and_true, and_self]
          · show rn (d + 12) 200 0 [some (Sum.inr (Sum.inl (69))), some (Sum.inl (E b)), some (Sum.inl (E b'))] [] μ = _
            simp only [st200_0, st200_1, st200_2, st200_3, st200_4, st200_5, st200_6, st200_7, st200_8, st200_9, st200_10, st200_11, st200_12, st200_13, st200_14, st200_15, st200_16, st200_17, st200_18, st200_19, st200_20, st200_21, st200_22, st200_23, st200_24, st200_25, st200_26, st200_27, st200_28, st200_29, hm.1, f141 hm hw hr.1, c1, c2, e, f143 (show b < 4 by omega) hm, f143 (show b' < 4 by omega) hm, f144 (show b < 4 by omega) hm, f144 (show b' < 4 by omega) hm, v1, v1', v2, v2', ep, aft_some, Option.toList_some, Option.toList_none, List.cons_append, List.nil_append, br0, br1, br2, br3, zr01, zr02, n10, n01, ne_eq, not_true_eq_false, not_false_eq_true, if_true, if_false, true_and, and_true, and_self]
        · refine ⟨-4, ?_, ?_⟩
          · show rn (d + 12) 95 0 [some (Sum.inr (Sum.inl (2))), some (Sum.inl (E b)), some (Sum.inl (E b')), none, none] [] μ = _
            simp only [st95_0, st95_1, st95_2, st95_3, st95_4, st95_5, st95_6, st95_7, st95_8, st95_9, st95_10, st95_11, st95_12, st95_13, st95_14, st95_15, st95_16, st95_17, st95_18, st95_19, st95_20, st95_21, st95_22, st95_23, st95_24, st95_25, st95_26, st95_27, st95_28, st95_29, st95_30, st95_31, hc.1, hc.2.1, ht.1.1, f67 hw ht, c1, c2, E_n (show b < 1000 by omega), E_n (show b' < 1000 by omega), e0, e0', e, hbk.1.1, hbk'.1.1, u1, u1', ep, aft_some, Option.toList_some, Option.toList_none, List.cons_append, List.nil_append, br0, br1, br2, br3, zr01, zr02, n10, n01, ne_eq, not_true_eq_false, not_false_eq_true, if_true, if_false, true_and, and_true, and_self]
          · show rn (d + 12) 200 0 [some (Sum.inr (Sum.inl (69))), some (Sum.inl (E b)), some (Sum.inl (E b'))] [] μ = _
            simp only [st200_0, st200_1, st200_2, st200_3, st200_4, st200_5, st200_6, st200_7, st200_8, st200_9, st200_10, st200_11, st200_12, st200_13, st200_14, st200_15, st200_16, st200_17, st200_18, st200_19, st200_20, st200_21, st200_22, st200_23, st200_24, st200_25, st200_26, st200_27, st200_28, st200_29, hm.1, f141 hm hw hr.1, c1, c2, e, f143 (show b < 4 by omega) hm, f143 (show b' < 4 by omega) hm, v1, v1', ep, aft_some, Option.toList_some, Option.toList_none, List.cons_append, List.nil_append, br0, br1, br2, br3, zr01, zr02, n10, n01, ne_eq, not_true_eq_false, not_false_eq_true, if_true, if_false, true_and, and_true, and_self]
    · refine ⟨-1, ?_, ?_⟩
      · show rn (d + 12) 95 0 [some (Sum.inr (Sum.inl (2))), some (Sum.inl (E b)), some (Sum.inl (y)), none, none] [] μ = _
        simp only [st95_0, st95_1, st95_2, st95_3, st95_4, st95_5, st95_6, st95_7, st95_8, st95_9, st95_10, st95_11, st95_12, st95_13, st95_14, st95_15, st95_16, st95_17, st95_18, st95_19, st95_20, st95_21, st95_22, st95_23, st95_24, st95_25, st95_26, st95_27, st95_28, st95_29, st95_30, st95_31, hc.1, hc.2.1, ht.1.1, f67 hw ht, c1, c2, E_n (show b < 1000 by omega), e0, aft_some, Option.toList_some, Option.toList_none, List.cons_append, List.nil_append, br0, br1, br2, br3, zr01, zr02, n10, n01, ne_eq, not_true_eq_false, not_false_eq_true, if_true, if_false, true_and, and_true, and_self]
      · show rn (d + 12) 200 0 [some (Sum.inr (Sum.inl (69))), some (Sum.inl (E b)), some (Sum.inl (y))] [] μ = _
        simp only [st200_0, st200_1, st200_2, st200_3, st200_4, st200_5, st200_6, st200_7, st200_8, st200_9, st200_10, st200_11, st200_12, st200_13, st200_14, st200_15, st200_16, st200_17, st200_18, st200_19, st200_20, st200_21, st200_22, st200_23, st200_24, st200_25, st200_26, st200_27, st200_28, st200_29, hm.1, f141 hm hw hr.1, c1, c2, aft_some, Option.toList_some, Option.toList_none, List.cons_append, List.nil_append, br0, br1, br2, br3, zr01, zr02, n10, n01, ne_eq, not_true_eq_false, not_false_eq_true, if_true, if_false, true_and, and_true, and_self]
  · refine ⟨-1, ?_, ?_⟩
    · show rn (d + 12) 95 0 [some (Sum.inr (Sum.inl (2))), some (Sum.inl (x)), some (Sum.inl (y)), none, none] [] μ = _
      simp only [st95_0, st95_1, st95_2, st95_3, st95_4, st95_5, st95_6, st95_7, st95_8, st95_9, st95_10, st95_11, st95_12, st95_13, st95_14, st95_15, st95_16, st95_17, st95_18, st95_19, st95_20, st95_21, st95_22, st95_23, st95_24, st95_25, st95_26, st95_27, st95_28, st95_29, st95_30, st95_31, hc.1, hc.2.1, ht.1.1, f67 hw ht, c1, aft_some, Option.toList_some, Option.toList_none, List.cons_append, List.nil_append, br0, br1, br2, br3, zr01, zr02, n10, n01, ne_eq, not_true_eq_false, not_false_eq_true, if_true, if_false, true_and, and_true, and_self]
    · show rn (d + 12) 200 0 [some (Sum.inr (Sum.inl (69))), some (Sum.inl (x)), some (Sum.inl (y))] [] μ = _
      simp only [st200_0, st200_1, st200_2, st200_3, st200_4, st200_5, st200_6, st200_7, st200_8, st200_9, st200_10, st200_11, st200_12, st200_13, st200_14, st200_15, st200_16, st200_17, st200_18, st200_19, st200_20, st200_21, st200_22, st200_23, st200_24, st200_25, st200_26, st200_27, st200_28, st200_29, hm.1, f141 hm hw hr.1, c1, aft_some, Option.toList_some, Option.toList_none, List.cons_append, List.nil_append, br0, br1, br2, br3, zr01, zr02, n10, n01, ne_eq, not_true_eq_false, not_false_eq_true, if_true, if_false, true_and, and_true, and_self]
/-- what a reader has: the reference's -/
theorem hb_stop {pg : Nat} {ho : Nat → Int32} {r : Int32} : ∀ k, hb pg ho r (pg + k) = hb pg ho r pg := by
  intro k
  induction k with
  | zero => rfl
  | succ k ih => rw [show pg + (k + 1) = (pg + k) + 1 from rfl, hb_s, if_neg (by omega), ih]
theorem hb_ext {pg : Nat} {ho ho' : Nat → Int32} {r : Int32} : ∀ k, (∀ p, p < k → ho p = ho' p) → hb pg ho r k = hb pg ho' r k := by
  intro k
  induction k with
  | zero => intro _; rfl
  | succ k ih => intro h; rw [hb_s, hb_s, ih (fun p hp => h p (by omega)), h k (by omega)]
theorem f172_lp {d b r : Nat} {A : AT} {μ : SMem} (hm : MA μ) (hw : WF A) (hr : MRw (gi μ 70) A) (hb9 : b < bcA A) (hr9 : r < 6) : ∀ k p, p + k = pgA A b → rn (d + 2) 172 4 [some (Sum.inr (Sum.inl (69))), some (Sum.inl (E r)), some (Sum.inl (E b)), some (Sum.inl (E (hb (pgA A b) (hoA A b) (E r) p))), some (Sum.inl (E p))] [] μ = some (Sum.inl (some (Sum.inl (E (hb (pgA A b) (hoA A b) (E r) (pgA A b))))), μ) := by
  have w1 := hw.1
  have b9 : b < 4 := by omega
  have hq := hr.mq hw
  have hbs := hq.bk hw hb9
  obtain ⟨v1, v2, v3, v4⟩ := hr.2.2.2.1 b hb9
  have hp9 := hw.pg9 b
  intro k
  induction k with
  | zero =>
    intro p hp
    have : p = pgA A b := by omega
    rw [st172_4]
    simp only [st172_0, st172_1, st172_2, st172_3, st172_5, st172_6, st172_7, st172_8, st172_9, st172_10, st172_11, st172_12, st172_13, st172_14, st172_15, st172_16, st172_17, st172_18, st172_19, st172_20, st172_21, st172_22, st172_23, st172_24, st172_25, st172_26, st172_27, st172_28, st172_29, hm.1, f143 b9 hm, v1, aft_some, Option.toList_some, Option.toList_none, List.cons_append, List.nil_append, br0, br1, br2, br3, zr01, zr02, n10, n01, ne_eq, not_true_eq_false, not_false_eq_true, if_true, if_false, true_and, and_true, and_self]
    rw [this]
    simp only [Int32.le_refl, if_true]
  | succ k ih =>
    intro p hp
    have p8 : p < 8 := by omega
    have hc : ¬ E (pgA A b) ≤ E p := by rw [E_le (by omega) (by omega)]; omega
    have hu := hb_lt (pg := pgA A b) (ho := hoA A b) (r := E r) p (by omega)
    have ihs := ih (p + 1) (by omega)
    rw [hb_s p] at ihs
    rw [st172_4]
    simp only [st172_0, st172_1, st172_2, st172_3, st172_5, st172_6, st172_7, st172_8, st172_9, st172_10, st172_11, st172_12, st172_13, st172_14, st172_15, st172_16, st172_17, st172_18, st172_19, st172_20, st172_21, st172_22, st172_23, st172_24, st172_25, st172_26, st172_27, st172_28, st172_29, hm.1, f143 b9 hm, v1, hc, f149 p8 hm hbs, f147 b9 p8 hm, E_or1 _ hu p p8, show E p + 1 = E (p + 1) from E_add p 1, aft_some, Option.toList_some, Option.toList_none, List.cons_append, List.nil_append, br0, br1, br2, br3, zr01, zr02, n10, n01, ne_eq, not_true_eq_false, not_false_eq_true, if_true, if_false, true_and, and_true, and_self]
    have pp : p < pgA A b := by omega
    by_cases q : (inA A b).testBit p = true
    · have h4 := (hw.2.2.1 b hb9).2.2.2.2.1 p p8 q
      have hne : ¬ (-4 : Int32) = E r := by
        have : ∀ r, r < 6 → ¬ (-4 : Int32) = E r := by decide
        exact this r hr9
      rw [h4] at ihs
      simp only [hne, and_false, if_false] at ihs
      simpa [q] using ihs
    · have q2 : (inA A b).testBit p = false := by simpa using q
      rw [v4 p p8 pp q2]
      by_cases e : hoA A b p = E r
      · simp only [e, pp, and_self, if_true] at ihs
        simpa [q2, e] using ihs
      · simp only [e, and_false, if_false] at ihs
        simpa [q2, e] using ihs
theorem f172 {d b r : Nat} {A : AT} {μ : SMem} (hm : MA μ) (hw : WF A) (hr : MRw (gi μ 70) A) (hb9 : b < bcA A) (hr9 : r < 6) : cl (d + 2) 172 [Sum.inr (Sum.inl (69)), Sum.inl (E r), Sum.inl (E b)] μ = some (Sum.inl (some (Sum.inl (E (hb (pgA A b) (hoA A b) (E r) 8)))), μ) := by
  have h9 := hw.pg9 b
  have e8 := hb_stop (pg := pgA A b) (ho := hoA A b) (r := E r) (8 - pgA A b)
  rw [show pgA A b + (8 - pgA A b) = 8 by omega] at e8
  rw [e8]
  show rn (d + 2) 172 0 [some (Sum.inr (Sum.inl (69))), some (Sum.inl (E r)), some (Sum.inl (E b)), none, none] [] μ = _
  simp only [st172_0, st172_1, st172_2, st172_3]
  exact f172_lp hm hw hr hb9 hr9 (pgA A b) 0 (by omega)
theorem g93 {d : Nat} {x y : Int32} {A : AT} {μ : SMem} (h : Both μ A) : ∃ v, cl (d + 12) 93 [Sum.inr (Sum.inl (2)), Sum.inl (x), Sum.inl (y)] μ = some (Sum.inl (some (Sum.inl (v))), μ) ∧ cl (d + 12) 198 [Sum.inr (Sum.inl (69)), Sum.inl (x), Sum.inl (y)] μ = some (Sum.inl (some (Sum.inl (v))), μ) := by
  obtain ⟨hm, hc, hw, ht, hr⟩ := h
  have hq := hr.mq hw
  by_cases c2 : 0 ≤ y ∧ y < E (bcA A)
  · obtain ⟨b, hb9, rfl⟩ := E_of c2.1 c2.2 (by have := hw.1; omega)
    have b9 : b < 4 := by have := hw.1; omega
    have e0 : (3 + 3 + 3 * b = 0) = False := eq_false (by omega)
    by_cases c1 : 0 ≤ x ∧ x < E (rcA A)
    · obtain ⟨r, hr1, rfl⟩ := E_of c1.1 c1.2 (by have := hw.2.1; omega)
      obtain ⟨r0, hrd⟩ := ht.2.2.2.2.2 r hr1
      have r9 : r < 6 := by have := hw.2.1; omega
      have hbk := ht.bk b9
      obtain ⟨u1, u2, u3, u4⟩ := ht.2.2.2.2.1 b b9
      refine ⟨E (hb (pgA A b) (hoA A b) (E r) 8), ?_, ?_⟩
      · show rn (d + 12) 93 0 [some (Sum.inr (Sum.inl (2))), some (Sum.inl (E r)), some (Sum.inl (E b)), none] [] μ = _
        simp only [st93_0, st93_1, st93_2, st93_3, st93_4, st93_5, st93_6, st93_7, st93_8, st93_9, st93_10, st93_11, st93_12, st93_13, st93_14, st93_15, st93_16, st93_17, hc.1, hc.2.1, ht.1.1, f67 hw ht, f68 hw ht, c1, c2, E_n (show r < 1000 by omega), E_n (show b < 1000 by omega), r0, e0, hbk.1.1, f14 (hw.pg9 b) c1.1 hbk.1 u1, aft_some, Option.toList_some, Option.toList_none, List.cons_append, List.nil_append, br0, br1, br2, br3, zr01, zr02, n10, n01, ne_eq, not_true_eq_false, not_false_eq_true, if_true, if_false, true_and, and_true, and_self]
        rw [hb_ext 8 u4]
      · show rn (d + 12) 198 0 [some (Sum.inr (Sum.inl (69))), some (Sum.inl (E r)), some (Sum.inl (E b))] [] μ = _
        simp only [st198_0, st198_1, st198_2, st198_3, st198_4, st198_5, st198_6, st198_7, st198_8, st198_9, st198_10, st198_11, hm.1, f176 hm hw hq, c1, c2, f172 hm hw hr hb9 r9, aft_some, Option.toList_some, Option.toList_none, List.cons_append, List.nil_append, br0, br1, br2, br3, zr01, zr02, n10, n01, ne_eq, not_true_eq_false, not_false_eq_true, if_true, if_false, true_and, and_true, and_self]
    · refine ⟨-1, ?_, ?_⟩
      · show rn (d + 12) 93 0 [some (Sum.inr (Sum.inl (2))), some (Sum.inl (x)), some (Sum.inl (E b)), none] [] μ = _
        simp only [st93_0, st93_1, st93_2, st93_3, st93_4, st93_5, st93_6, st93_7, st93_8, st93_9, st93_10, st93_11, st93_12, st93_13, st93_14, st93_15, st93_16, st93_17, hc.1, hc.2.1, ht.1.1, f67 hw ht, f68 hw ht, c1, c2, E_n (show b < 1000 by omega), e0, aft_some, Option.toList_some, Option.toList_none, List.cons_append, List.nil_append, br0, br1, br2, br3, zr01, zr02, n10, n01, ne_eq, not_true_eq_false, not_false_eq_true, if_true, if_false, true_and, and_true, and_self]
      · show rn (d + 12) 198 0 [some (Sum.inr (Sum.inl (69))), some (Sum.inl (x)), some (Sum.inl (E b))] [] μ = _
        simp only [st198_0, st198_1, st198_2, st198_3, st198_4, st198_5, st198_6, st198_7, st198_8, st198_9, st198_10, st198_11, hm.1, f176 hm hw hq, c1, false_and, aft_some, Option.toList_some, Option.toList_none, List.cons_append, List.nil_append, br0, br1, br2, br3, zr01, zr02, n10, n01, ne_eq, not_true_eq_false, not_false_eq_true, if_true, if_false, true_and, and_true, and_self]
  · refine ⟨-1, ?_, ?_⟩
    · show rn (d + 12) 93 0 [some (Sum.inr (Sum.inl (2))), some (Sum.inl (x)), some (Sum.inl (y)), none] [] μ = _
      simp only [st93_0, st93_1, st93_2, st93_3, st93_4, st93_5, st93_6, st93_7, st93_8, st93_9, st93_10, st93_11, st93_12, st93_13, st93_14, st93_15, st93_16, st93_17, hc.1, hc.2.1, ht.1.1, f67 hw ht, f68 hw ht, c2, aft_some, Option.toList_some, Option.toList_none, List.cons_append, List.nil_append, br0, br1, br2, br3, zr01, zr02, n10, n01, ne_eq, not_true_eq_false, not_false_eq_true, if_true, if_false, true_and, and_true, and_self]
    · show rn (d + 12) 198 0 [some (Sum.inr (Sum.inl (69))), some (Sum.inl (x)), some (Sum.inl (y))] [] μ = _
      simp only [st198_0, st198_1, st198_2, st198_3, st198_4, st198_5, st198_6, st198_7, st198_8, st198_9, st198_10, st198_11, hm.1, f176 hm hw hq, c2, and_false, aft_some, Option.toList_some, Option.toList_none, List.cons_append, List.nil_append, br0, br1, br2, br3, zr01, zr02, n10, n01, ne_eq, not_true_eq_false, not_false_eq_true, if_true, if_false, true_and, and_true, and_self]
