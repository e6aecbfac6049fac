/-! SPECS Y: turns, the call -/
theorem g97 {d : Nat} {x y z : Int32} {A Ai : AT} {im : Nat} {Hs : Nat → HT} {μ : SMem} (h : INVw μ A Ai im Hs) : ∃ v μ2, cl (d + 12) 97 [Sum.inr (Sum.inl (2)), Sum.inl (x), Sum.inl (y), Sum.inl (z)] μ = some (Sum.inl (some (Sum.inl (v))), μ) ∧ cl (d + 12) 203 [Sum.inr (Sum.inl (69)), Sum.inl (x), Sum.inl (y), Sum.inl (z)] μ = some (Sum.inl (some (Sum.inl (v))), μ2) ∧ INVw μ2 A Ai im Hs ∧ sz μ2 = sz μ ∧ sl μ2 = sl μ := by
  have hB := h.1
  obtain ⟨hm, hc, hw, ht, hr⟩ := hB
  have hq := hr.mq hw
  by_cases c1 : 0 ≤ x ∧ x < E (rcA A)
  · obtain ⟨r, hr1, rfl⟩ := E_of c1.1 c1.2 (by have := hw.2.1; omega)
    obtain ⟨r0, hrd⟩ := ht.2.2.2.2.2 r hr1
    have r9 : r < 1000 := by have := hw.2.1; omega
    by_cases c2 : 0 ≤ y ∧ y < E (rcA A)
    · obtain ⟨q, hr2, rfl⟩ := E_of c2.1 c2.2 (by have := hw.2.1; omega)
      obtain ⟨q0, hrd2⟩ := ht.2.2.2.2.2 q hr2
      have q9 : q < 1000 := by have := hw.2.1; omega
      by_cases c3 : 0 ≤ z ∧ z < E (bcA A)
      · obtain ⟨b, hb, rfl⟩ := E_of c3.1 c3.2 (by have := hw.1; omega)
        have b9 : b < 4 := by have := hw.1; omega
        have e0 : (3 + 3 + 3 * b = 0) = False := eq_false (by omega)
        have hbk := ht.bk b9
        obtain ⟨u1, u2, u3, u4⟩ := ht.2.2.2.2.1 b b9
        obtain ⟨μa, b1, b2, b3⟩ := f183 (d := d + 10) hm
        have hqa : MQr (gi μa 70) A (inA A) := by rw [b2.2.2.2.2.2.2 70 (by omega)]; exact hq
        have hma := hm.sb b2
        obtain ⟨μb, x5, l1, l2⟩ := f203_lp (d := d + 7) hma hw hr1 hr2 hb 16 0 0 μa (inA A) (by omega) SB.rf hqa
        obtain ⟨μc, d1, d2, d3⟩ := f184b (d := d + 10) h.1 b2 b3 l2
        refine ⟨trn A r q b (inA A b) 0 16 0, μc, ?_, ?_, h.up (d2.wk (fun c e => by unfold Scr; omega)) (fun c h => h) (by rw [d2.2.2.2.2.2.2 69 (by omega)]) d3, d2.2.2.2.2.1, d2.2.2.2.2.2.1⟩
        · show rn (d + 12) 97 0 [some (Sum.inr (Sum.inl (2))), some (Sum.inl (E r)), some (Sum.inl (E q)), some (Sum.inl (E b)), none, none, none, none, none, none, none, none, none] [] μ = _
          simp only [st97_0, st97_1, st97_2, st97_3, st97_4, st97_5, st97_6, st97_7, st97_8, st97_9, st97_10, st97_11, st97_12, st97_13, st97_14, st97_15, st97_16, st97_17, st97_18, st97_19, st97_20, st97_21, st97_22, st97_23, st97_24, st97_25, st97_26, st97_27, st97_28, st97_29, hc.1, hc.2.1, ht.1.1, f67 hw ht, f68 hw ht, c1, c2, c3, E_n r9, E_n q9, E_n (show b < 1000 by omega), r0, q0, e0, hbk.1.1, u2, aft_some, Option.toList_some, Option.toList_none, List.cons_append, List.nil_append, br0, br1, br2, br3, zr01, zr02, n10, n01, ne_eq, not_true_eq_false, not_false_eq_true, if_true, if_false, true_and, and_true, and_self]
          exact f97_lp (d := d + 7) hw hrd hrd2 hb hbk 16 0 _ 0 none none none rfl (hw.in9 b)
        · show rn (d + 12) 203 0 [some (Sum.inr (Sum.inl (69))), some (Sum.inl (E r)), some (Sum.inl (E q)), some (Sum.inl (E b)), none, none] [] μ = _
          simp only [st203_0, st203_1, st203_2, st203_3, st203_4, st203_5, st203_6, st203_7, st203_8, st203_9, st203_10, st203_11, st203_12, st203_13, st203_14, st203_15, st203_16, hm.1, f142 hm hw hr.2.1, f176 hm hw hq, c1, c2, c3, b1, aft_some, Option.toList_some, Option.toList_none, List.cons_append, List.nil_append, br0, br1, br2, br3, zr01, zr02, n10, n01, ne_eq, not_true_eq_false, not_false_eq_true, if_true, if_false, true_and, and_true, and_self]
          refine l1.trans ?_
          simp only [st203_43, st203_44, st203_45, st203_46, (hma.sb l2).1, d1, aft_some, Option.toList_some, Option.toList_none, List.cons_append, List.nil_append, br0, br1, br2, br3, zr01, zr02, n10, n01, ne_eq, not_true_eq_false, not_false_eq_true, if_true, if_false, true_and, and_true, and_self]
      · refine ⟨-1000000001, μ, ?_, ?_, h, rfl, rfl⟩
        · show rn (d + 12) 97 0 [some (Sum.inr (Sum.inl (2))), some (Sum.inl (E r)), some (Sum.inl (E q)), some (Sum.inl (z)), none, none, none, none, none, none, none, none, none] [] μ = _
          simp only [st97_0, st97_1, st97_2, st97_3, st97_4, st97_5, st97_6, st97_7, st97_8, st97_9, st97_10, st97_11, st97_12, st97_13, st97_14, st97_15, st97_16, st97_17, st97_18, st97_19, st97_20, st97_21, st97_22, st97_23, st97_24, st97_25, st97_26, st97_27, st97_28, st97_29, hc.1, hc.2.1, ht.1.1, f67 hw ht, f68 hw ht, c1, c2, c3, E_n r9, E_n q9, r0, q0, aft_some, Option.toList_some, Option.toList_none, List.cons_append, List.nil_append, br0, br1, br2, br3, zr01, zr02, n10, n01, ne_eq, not_true_eq_false, not_false_eq_true, if_true, if_false, true_and, and_true, and_self]
        · show rn (d + 12) 203 0 [some (Sum.inr (Sum.inl (69))), some (Sum.inl (E r)), some (Sum.inl (E q)), some (Sum.inl (z)), none, none] [] μ = _
          simp only [st203_0, st203_1, st203_2, st203_3, st203_4, st203_5, st203_6, st203_7, st203_8, st203_9, st203_10, st203_11, st203_12, st203_13, st203_14, st203_15, st203_16, hm.1, f142 hm hw hr.2.1, f176 hm hw hq, c1, c2, c3, and_false, aft_some, Option.toList_some, Option.toList_none, List.cons_append, List.nil_append, br0, br1, br2, br3, zr01, zr02, n10, n01, ne_eq, not_true_eq_false, not_false_eq_true, if_true, if_false, true_and, and_true, and_self]
    · refine ⟨-1000000001, μ, ?_, ?_, h, rfl, rfl⟩
      · show rn (d + 12) 97 0 [some (Sum.inr (Sum.inl (2))), some (Sum.inl (E r)), some (Sum.inl (y)), some (Sum.inl (z)), none, none, none, none, none, none, none, none, none] [] μ = _
        simp only [st97_0, st97_1, st97_2, st97_3, st97_4, st97_5, st97_6, st97_7, st97_8, st97_9, st97_10, st97_11, st97_12, st97_13, st97_14, st97_15, st97_16, st97_17, st97_18, st97_19, st97_20, st97_21, st97_22, st97_23, st97_24, st97_25, st97_26, st97_27, st97_28, st97_29, hc.1, hc.2.1, ht.1.1, f67 hw ht, f68 hw ht, c1, c2, E_n r9, r0, aft_some, Option.toList_some, Option.toList_none, List.cons_append, List.nil_append, br0, br1, br2, br3, zr01, zr02, n10, n01, ne_eq, not_true_eq_false, not_false_eq_true, if_true, if_false, true_and, and_true, and_self]
      · show rn (d + 12) 203 0 [some (Sum.inr (Sum.inl (69))), some (Sum.inl (E r)), some (Sum.inl (y)), some (Sum.inl (z)), none, none] [] μ = _
        simp only [st203_0, st203_1, st203_2, st203_3, st203_4, st203_5, st203_6, st203_7, st203_8, st203_9, st203_10, st203_11, st203_12, st203_13, st203_14, st203_15, st203_16, hm.1, f142 hm hw hr.2.1, f176 hm hw hq, c1, c2, false_and, aft_some, Option.toList_some, Option.toList_none, List.cons_append, List.nil_append, br0, br1, br2, br3, zr01, zr02, n10, n01, ne_eq, not_true_eq_false, not_false_eq_true, if_true, if_false, true_and, and_true, and_self]
  · refine ⟨-1000000001, μ, ?_, ?_, h, rfl, rfl⟩
    · show rn (d + 12) 97 0 [some (Sum.inr (Sum.inl (2))), some (Sum.inl (x)), some (Sum.inl (y)), some (Sum.inl (z)), none, none, none, none, none, none, none, none, none] [] μ = _
      simp only [st97_0, st97_1, st97_2, st97_3, st97_4, st97_5, st97_6, st97_7, st97_8, st97_9, st97_10, st97_11, st97_12, st97_13, st97_14, st97_15, st97_16, st97_17, st97_18, st97_19, st97_20, st97_21, st97_22, st97_23, st97_24, st97_25, st97_26, st97_27, st97_28, st97_29, hc.1, hc.2.1, ht.1.1, f67 hw ht, f68 hw ht, c1, aft_some, Option.toList_some, Option.toList_none, List.cons_append, List.nil_append, br0, br1, br2, br3, zr01, zr02, n10, n01, ne_eq, not_true_eq_false, not_false_eq_true, if_true, if_false, true_and, and_true, and_self]
    · show rn (d + 12) 203 0 [some (Sum.inr (Sum.inl (69))), some (Sum.inl (x)), some (Sum.inl (y)), some (Sum.inl (z)), none, none] [] μ = _
      simp only [st203_0, st203_1, st203_2, st203_3, st203_4, st203_5, st203_6, st203_7, st203_8, st203_9, st203_10, st203_11, st203_12, st203_13, st203_14, st203_15, st203_16, hm.1, f142 hm hw hr.2.1, c1, aft_some, Option.toList_some, Option.toList_none, List.cons_append, List.nil_append, br0, br1, br2, br3, zr01, zr02, n10, n01, ne_eq, not_true_eq_false, not_false_eq_true, if_true, if_false, true_and, and_true, and_self]
